/-! ===== the reference, method by method (laid by program) ===== -/
set_option maxHeartbeats 4000000 in
set_option maxRecDepth 100000 in
theorem cm_in (l : Launch) (v lo hi : Int32) : ZS l yX6_in wsX6_in (zrm 0 0) [.int (v), .int (lo), .int (hi)] (bin v lo hi) := by
  refine z_inS (cc := cX6_in) (maxL := 3) (rt := .boolean) (by decide +kernel) rfl (by decide) ?_
  intro p e s m args below meth c ls Q Z hl hret
  have Z : CallFix p m c cX6_in 3 s args wsX6_in RX6 := Z
  have hx := Z.1
  have hb := Z.2.1
  have hts := Z.2.2.2.2
  generalize hH : s.heap = H at hret ⊢
  have hl : lv_has ls 3 [(0, .int (v)), (1, .int (lo)), (2, .int (hi))] := hl
  refine lv_iload_n hx hb dX6_in_0 rfl (lv_at hl 0 rfl) ?_
  refine lv_iload_n hx hb dX6_in_1 rfl (lv_at hl 1 rfl) ?_
  refine lv_icmp_lt (tgt := 14) hx hb dX6_in_2 (by decide) (fun c_1 => ?_) (fun c_1 => ?_)
  ·
    refine lv_iconst (v := 0) hx hb dX6_in_14 (by decide) ?_
    exact hret _ ls _ (by simp only [bin, if_pos c_1]) (rfl) dX6_in_15
  ·
    refine lv_iload_n hx hb dX6_in_5 rfl (lv_at hl 0 rfl) ?_
    refine lv_iload_n hx hb dX6_in_6 rfl (lv_at hl 2 rfl) ?_
    refine lv_icmp_gt (tgt := 14) hx hb dX6_in_7 (by decide) (fun c_2 => ?_) (fun c_2 => ?_)
    ·
      refine lv_iconst (v := 0) hx hb dX6_in_14 (by decide) ?_
      exact hret _ ls _ (by simp only [bin, if_neg c_1, if_pos c_2]) (rfl) dX6_in_15
    ·
      refine lv_iconst (v := 1) hx hb dX6_in_10 (by decide) ?_
      refine lv_goto (tgt := 15) hx hb dX6_in_11 (by decide) ?_
      exact hret _ ls _ (by simp only [bin, if_neg c_1, if_neg c_2]) (rfl) dX6_in_15
set_option maxHeartbeats 4000000 in
set_option maxRecDepth 100000 in
theorem cm_least (l : Launch) (a b : Int32) : ZS l yX6_least wsX6_least (zrm 0 0) [.int (a), .int (b)] (imin a b) := by
  refine z_inS (cc := cX6_least) (maxL := 2) (rt := .int) (by decide +kernel) rfl (by decide) ?_
  intro p e s m args below meth c ls Q Z hl hret
  have Z : CallFix p m c cX6_least 2 s args wsX6_least RX6 := Z
  have hx := Z.1
  have hb := Z.2.1
  have hts := Z.2.2.2.2
  generalize hH : s.heap = H at hret ⊢
  have hl : lv_has ls 2 [(0, .int (a)), (1, .int (b))] := hl
  refine lv_iload_n hx hb dX6_least_0 rfl (lv_at hl 0 rfl) ?_
  refine lv_iload_n hx hb dX6_least_1 rfl (lv_at hl 1 rfl) ?_
  refine lv_icmp_ge (tgt := 9) hx hb dX6_least_2 (by decide) (fun c_1 => ?_) (fun c_1 => ?_)
  ·
    refine lv_iload_n hx hb dX6_least_9 rfl (lv_at hl 1 rfl) ?_
    exact hret _ ls _ (by simp only [imin, if_neg (Int32.not_lt.mpr c_1)]) (rfl) dX6_least_10
  ·
    refine lv_iload_n hx hb dX6_least_5 rfl (lv_at hl 0 rfl) ?_
    refine lv_goto (tgt := 10) hx hb dX6_least_6 (by decide) ?_
    exact hret _ ls _ (by simp only [imin, if_pos (Int32.not_le.mp c_1)]) (rfl) dX6_least_10
set_option maxHeartbeats 4000000 in
set_option maxRecDepth 100000 in
theorem cm_isSection (l : Launch) (k : Int32) : ZS l yX6_isSection wsX6_isSection (zrm 1 22) [.int (k)] (bin k 0 7) := by
  refine z_inS (cc := cX6_isSection) (maxL := 1) (rt := .boolean) (by decide +kernel) rfl (by decide) ?_
  intro p e s m args below meth c ls Q Z hl hret
  have Z : CallFix p m c cX6_isSection 1 s args wsX6_isSection RX6 := Z
  have hx := Z.1
  have hb := Z.2.1
  have hts := Z.2.2.2.2
  generalize hH : s.heap = H at hret ⊢
  have hl : lv_has ls 1 [(0, .int (k))] := hl
  refine lv_iload_n hx hb dX6_isSection_0 rfl (lv_at hl 0 rfl) ?_
  refine lv_iconst (v := 0) hx hb dX6_isSection_1 (by decide) ?_
  refine lv_bipush (v := 7) hx hb dX6_isSection_2 (by decide) ?_
  refine z_callSi (As := [.int (k), .int 0, .int 7]) (rest := []) Z (cm_in l (k) (0) (7)) (va_cwS 3 hts gX6_isSection_X6_in rfl rfl rfl (by decide +kernel) ⟨by decide, by decide⟩) rfl hl.1 (by decide) dX6_isSection_4 ⟨by decide, by decide⟩ rfl ?_
  exact hret _ ls _ (rfl) (bin_n _ _ _) dX6_isSection_7
set_option maxHeartbeats 4000000 in
set_option maxRecDepth 100000 in
theorem cm_neighbour (l : Launch) (k : Nat) (hk : k < 8) : ZS l yX6_neighbour wsX6_neighbour (zrm 0 0) [.int (nI (k))] (nI (nbr k)) := by
  refine z_inS (cc := cX6_neighbour) (maxL := 1) (rt := .int) (by decide +kernel) rfl (by decide) ?_
  intro p e s m args below meth c ls Q Z hl hret
  have Z : CallFix p m c cX6_neighbour 1 s args wsX6_neighbour RX6 := Z
  have hx := Z.1
  have hb := Z.2.1
  have hts := Z.2.2.2.2
  generalize hH : s.heap = H at hret ⊢
  have hl : lv_has ls 1 [(0, .int (nI (k)))] := hl
  refine lv_iload_n hx hb dX6_neighbour_0 rfl (lv_at hl 0 rfl) ?_
  refine lv_bipush (v := 7) hx hb dX6_neighbour_1 (by decide) ?_
  refine zn_icmp_ne (a := k) (b := 7) (tgt := 12) (by omega) (by decide) hx hb dX6_neighbour_3 (by decide) (fun c_1 => ?_) (fun c_1 => ?_)
  ·
    refine lv_iload_n hx hb dX6_neighbour_12 rfl (lv_at hl 0 rfl) ?_
    refine lv_iconst (v := 1) hx hb dX6_neighbour_13 (by decide) ?_
    refine zn_iadd (a := k) (b := 1) hx hb dX6_neighbour_14 ?_
    exact hret _ ls _ (by simp only [nbr, if_neg c_1]) (rfl) dX6_neighbour_15
  ·
    refine lv_iload_n hx hb dX6_neighbour_6 rfl (lv_at hl 0 rfl) ?_
    refine lv_iconst (v := 1) hx hb dX6_neighbour_7 (by decide) ?_
    refine zn_isub (a := k) (b := 1) (by omega) hx hb dX6_neighbour_8 ?_
    refine lv_goto (tgt := 15) hx hb dX6_neighbour_9 (by decide) ?_
    exact hret _ ls _ (by simp only [nbr, if_pos c_1]) (rfl) dX6_neighbour_15
set_option maxHeartbeats 4000000 in
set_option maxRecDepth 100000 in
theorem cm_goes (l : Launch) (D : va_G) (T : Nat → ClassId) (o : Nat) (ad : Nat → Nat) (σ : Nat → Nat → Int32) (f s9 t : Int32) : ZI l yX6_goes wsX6_goes (zrm 0 0) D T (mW o ad T σ) (mW o ad T (upS σ 31 (fun _ => gth f s9 t))) [.ref o, .int (f), .int (s9), .int (t)] (if gth f s9 t = 0 then 1 else 0) 0 0 := by
  refine z_inI (cc := cX6_goes) (maxL := 4) (rt := .boolean) (by decide +kernel) rfl (by decide) ?_
  intro p e s m args below meth c ls A Q Z hnm M hl hret
  have Z : zC p s m args c cX6_goes 4 RX6 wsX6_goes D T A := Z
  have hx := Z.1.1
  have hb := Z.1.2.1
  have hts := Z.1.2.2.2.2
  have hin6 : ∀ w ∈ wsX60, w ∈ wsX6_goes := fun w h => List.mem_cons_of_mem _ (List.mem_append_right _ h)
  have hH0 : s.heap = s.heap := rfl
  have L90 := hts (.fieldLink RX6 90 "AnvilHouseModel" "thrown" "I") (by decide +kernel)
  have hl : lv_has ls 4 [(0, .ref o), (1, .int (f)), (2, .int (s9)), (3, .int (t))] := hl
  refine lv_aload_n hx hb dX6_goes_0 rfl (lv_at hl 0 rfl) ?_
  refine lv_iload_n hx hb dX6_goes_1 rfl (lv_at hl 1 rfl) ?_
  refine lv_if_ne (tgt := 9) hx hb dX6_goes_2 (by decide) (fun c_1 => ?_) (fun c_1 => ?_)
  ·
    refine lv_iload_n hx hb dX6_goes_9 rfl (lv_at hl 2 rfl) ?_
    refine lv_if_ne (tgt := 17) hx hb dX6_goes_10 (by decide) (fun c_2 => ?_) (fun c_2 => ?_)
    ·
      refine lv_iload_n hx hb dX6_goes_17 rfl (lv_at hl 3 rfl) ?_
      refine lv_if_ne (tgt := 25) hx hb dX6_goes_18 (by decide) (fun c_3 => ?_) (fun c_3 => ?_)
      ·
        refine lv_iconst (v := 0) hx hb dX6_goes_25 (by decide) ?_
        refine z_putf Z M hin6 tyX6 tyX6_ok nmX6 0 rfl rfl 31 (by decide) L90 rfl rfl (ty := .int) rfl rfl rfl (by decide) (ws' := mW o ad T (upS σ 31 (fun _ => 0))) rfl dX6_goes_26 (fun H locs M => ?_)
        refine lv_aload_n hx hb dX6_goes_29 rfl (lv_at hl 0 rfl) ?_
        refine z_getf Z M hin6 0 rfl rfl 31 (by decide) L90 rfl (v := .int 0) rfl dX6_goes_30 ?_
        refine lv_if_ne (tgt := 40) hx hb dX6_goes_33 (by decide) (fun h => absurd h (by decide)) (fun _ => ?_)
        refine lv_iconst (v := 1) hx hb dX6_goes_36 (by decide) ?_
        refine lv_goto (tgt := 41) hx hb dX6_goes_37 (by decide) ?_
        exact hret _ _ _ _ _ ls _ _ M (by simp only [gth, if_neg c_1, if_neg c_2, if_neg c_3]) (by simp only [gth, if_neg c_1, if_neg c_2, if_neg c_3]; decide) (rfl) (Nat.le_refl _) (Nat.le_refl _) dX6_goes_41
      ·
        refine lv_iconst (v := 3) hx hb dX6_goes_21 (by decide) ?_
        refine lv_goto (tgt := 26) hx hb dX6_goes_22 (by decide) ?_
        refine z_putf Z M hin6 tyX6 tyX6_ok nmX6 0 rfl rfl 31 (by decide) L90 rfl rfl (ty := .int) rfl rfl rfl (by decide) (ws' := mW o ad T (upS σ 31 (fun _ => 3))) rfl dX6_goes_26 (fun H locs M => ?_)
        refine lv_aload_n hx hb dX6_goes_29 rfl (lv_at hl 0 rfl) ?_
        refine z_getf Z M hin6 0 rfl rfl 31 (by decide) L90 rfl (v := .int 3) rfl dX6_goes_30 ?_
        refine lv_if_ne (tgt := 40) hx hb dX6_goes_33 (by decide) (fun _ => ?_) (fun h => absurd (by decide) h)
        refine lv_iconst (v := 0) hx hb dX6_goes_40 (by decide) ?_
        exact hret _ _ _ _ _ ls _ _ M (by simp only [gth, if_neg c_1, if_neg c_2, if_pos c_3]) (by simp only [gth, if_neg c_1, if_neg c_2, if_pos c_3]; decide) (rfl) (Nat.le_refl _) (Nat.le_refl _) dX6_goes_41
    ·
      refine lv_iconst (v := 2) hx hb dX6_goes_13 (by decide) ?_
      refine lv_goto (tgt := 26) hx hb dX6_goes_14 (by decide) ?_
      refine z_putf Z M hin6 tyX6 tyX6_ok nmX6 0 rfl rfl 31 (by decide) L90 rfl rfl (ty := .int) rfl rfl rfl (by decide) (ws' := mW o ad T (upS σ 31 (fun _ => 2))) rfl dX6_goes_26 (fun H locs M => ?_)
      refine lv_aload_n hx hb dX6_goes_29 rfl (lv_at hl 0 rfl) ?_
      refine z_getf Z M hin6 0 rfl rfl 31 (by decide) L90 rfl (v := .int 2) rfl dX6_goes_30 ?_
      refine lv_if_ne (tgt := 40) hx hb dX6_goes_33 (by decide) (fun _ => ?_) (fun h => absurd (by decide) h)
      refine lv_iconst (v := 0) hx hb dX6_goes_40 (by decide) ?_
      exact hret _ _ _ _ _ ls _ _ M (by simp only [gth, if_neg c_1, if_pos c_2]) (by simp only [gth, if_neg c_1, if_pos c_2]; decide) (rfl) (Nat.le_refl _) (Nat.le_refl _) dX6_goes_41
  ·
    refine lv_iconst (v := 1) hx hb dX6_goes_5 (by decide) ?_
    refine lv_goto (tgt := 26) hx hb dX6_goes_6 (by decide) ?_
    refine z_putf Z M hin6 tyX6 tyX6_ok nmX6 0 rfl rfl 31 (by decide) L90 rfl rfl (ty := .int) rfl rfl rfl (by decide) (ws' := mW o ad T (upS σ 31 (fun _ => 1))) rfl dX6_goes_26 (fun H locs M => ?_)
    refine lv_aload_n hx hb dX6_goes_29 rfl (lv_at hl 0 rfl) ?_
    refine z_getf Z M hin6 0 rfl rfl 31 (by decide) L90 rfl (v := .int 1) rfl dX6_goes_30 ?_
    refine lv_if_ne (tgt := 40) hx hb dX6_goes_33 (by decide) (fun _ => ?_) (fun h => absurd (by decide) h)
    refine lv_iconst (v := 0) hx hb dX6_goes_40 (by decide) ?_
    exact hret _ _ _ _ _ ls _ _ M (by simp only [gth, if_pos c_1]) (by simp only [gth, if_pos c_1]; decide) (rfl) (Nat.le_refl _) (Nat.le_refl _) dX6_goes_41
set_option maxHeartbeats 4000000 in
set_option maxRecDepth 100000 in
theorem cm_isBillet (l : Launch) (D : va_G) (T : Nat → ClassId) (o : Nat) (ad : Nat → Nat) (σ : Nat → Nat → Int32) (k : Int32) : ZI l yX6_isBillet wsX6_isBillet (zrm 1 22) D T (mW o ad T σ) (mW o ad T σ) [.ref o, .int (k)] (bin k 0 (σ 5 0 - 1)) 0 0 := by
  refine z_inI (cc := cX6_isBillet) (maxL := 2) (rt := .boolean) (by decide +kernel) rfl (by decide) ?_
  intro p e s m args below meth c ls A Q Z hnm M hl hret
  have Z : zC p s m args c cX6_isBillet 2 RX6 wsX6_isBillet D T A := Z
  have hx := Z.1.1
  have hb := Z.1.2.1
  have hts := Z.1.2.2.2.2
  have hin6 : ∀ w ∈ wsX60, w ∈ wsX6_isBillet := fun w h => List.mem_cons_of_mem _ (List.mem_append_right _ h)
  have hH0 : s.heap = s.heap := rfl
  have L93 := hts (.fieldLink RX6 93 "AnvilHouseModel" "billets" "I") (by decide +kernel)
  have hl : lv_has ls 2 [(0, .ref o), (1, .int (k))] := hl
  refine lv_iload_n hx hb dX6_isBillet_0 rfl (lv_at hl 1 rfl) ?_
  refine lv_iconst (v := 0) hx hb dX6_isBillet_1 (by decide) ?_
  refine lv_aload_n hx hb dX6_isBillet_2 rfl (lv_at hl 0 rfl) ?_
  refine z_getf Z M hin6 0 rfl rfl 5 (by decide) L93 rfl (v := .int (σ 5 0)) rfl dX6_isBillet_3 ?_
  refine lv_iconst (v := 1) hx hb dX6_isBillet_6 (by decide) ?_
  refine lv_isub hx hb dX6_isBillet_7 ?_
  refine z_callSi (As := [.int (k), .int 0, .int ((σ 5 0) - 1)]) (rest := []) Z.1 (cm_in l (k) (0) ((σ 5 0) - 1)) (va_cwS 3 hts gX6_isBillet_X6_in rfl rfl rfl (by decide +kernel) ⟨by decide, by decide⟩) rfl hl.1 (by decide) dX6_isBillet_8 ⟨by decide, by decide⟩ rfl ?_
  exact hret _ _ _ _ _ ls _ _ M (rfl) (rfl) (bin_n _ _ _) (Nat.le_refl _) (Nat.le_refl _) dX6_isBillet_11
set_option maxHeartbeats 4000000 in
set_option maxRecDepth 100000 in
theorem cm_isDie (l : Launch) (D : va_G) (T : Nat → ClassId) (o : Nat) (ad : Nat → Nat) (σ : Nat → Nat → Int32) (k : Int32) : ZI l yX6_isDie wsX6_isDie (zrm 1 22) D T (mW o ad T σ) (mW o ad T σ) [.ref o, .int (k)] (bin k 0 (σ 21 0 - 1)) 0 0 := by
  refine z_inI (cc := cX6_isDie) (maxL := 2) (rt := .boolean) (by decide +kernel) rfl (by decide) ?_
  intro p e s m args below meth c ls A Q Z hnm M hl hret
  have Z : zC p s m args c cX6_isDie 2 RX6 wsX6_isDie D T A := Z
  have hx := Z.1.1
  have hb := Z.1.2.1
  have hts := Z.1.2.2.2.2
  have hin6 : ∀ w ∈ wsX60, w ∈ wsX6_isDie := fun w h => List.mem_cons_of_mem _ (List.mem_append_right _ h)
  have hH0 : s.heap = s.heap := rfl
  have L100 := hts (.fieldLink RX6 100 "AnvilHouseModel" "dies" "I") (by decide +kernel)
  have hl : lv_has ls 2 [(0, .ref o), (1, .int (k))] := hl
  refine lv_iload_n hx hb dX6_isDie_0 rfl (lv_at hl 1 rfl) ?_
  refine lv_iconst (v := 0) hx hb dX6_isDie_1 (by decide) ?_
  refine lv_aload_n hx hb dX6_isDie_2 rfl (lv_at hl 0 rfl) ?_
  refine z_getf Z M hin6 0 rfl rfl 21 (by decide) L100 rfl (v := .int (σ 21 0)) rfl dX6_isDie_3 ?_
  refine lv_iconst (v := 1) hx hb dX6_isDie_6 (by decide) ?_
  refine lv_isub hx hb dX6_isDie_7 ?_
  refine z_callSi (As := [.int (k), .int 0, .int ((σ 21 0) - 1)]) (rest := []) Z.1 (cm_in l (k) (0) ((σ 21 0) - 1)) (va_cwS 3 hts gX6_isDie_X6_in rfl rfl rfl (by decide +kernel) ⟨by decide, by decide⟩) rfl hl.1 (by decide) dX6_isDie_8 ⟨by decide, by decide⟩ rfl ?_
  exact hret _ _ _ _ _ ls _ _ M (rfl) (rfl) (bin_n _ _ _) (Nat.le_refl _) (Nat.le_refl _) dX6_isDie_11
set_option maxHeartbeats 4000000 in
set_option maxRecDepth 100000 in
theorem cm_follows (l : Launch) (D : va_G) (T : Nat → ClassId) (o : Nat) (ad : Nat → Nat) (σ : Nat → Nat → Int32) (i : Nat) (hi : i < 12) : ZV l yX6_follows wsX6_follows (zrm 0 0) D T (mW o ad T σ) (mW o ad T (upS σ 10 (upd (σ 10) i (σ 10 i + (σ 9 i - σ 10 i) / 6)))) [.ref o, .int (nI (i))] 0 0 := by
  refine z_inV (cc := cX6_follows) (maxL := 2) (by decide +kernel) rfl (by decide) ?_
  intro p e s m args below meth c ls A Q Z hnm M hl hret
  have Z : zC p s m args c cX6_follows 2 RX6 wsX6_follows D T A := Z
  have hx := Z.1.1
  have hb := Z.1.2.1
  have hts := Z.1.2.2.2.2
  have hin6 : ∀ w ∈ wsX60, w ∈ wsX6_follows := fun w h => List.mem_cons_of_mem _ (List.mem_append_right _ h)
  have hH0 : s.heap = s.heap := rfl
  have L34 := hts (.fieldLink RX6 34 "AnvilHouseModel" "core" "[I") (by decide +kernel)
  have L31 := hts (.fieldLink RX6 31 "AnvilHouseModel" "skin" "[I") (by decide +kernel)
  have hl : lv_has ls 2 [(0, .ref o), (1, .int (nI (i)))] := hl
  refine lv_aload_n hx hb dX6_follows_0 rfl (lv_at hl 0 rfl) ?_
  refine z_getf Z M hin6 0 rfl rfl 10 (by decide) L34 rfl (v := .ref (ad 10)) rfl dX6_follows_1 ?_
  refine lv_iload_n hx hb dX6_follows_4 rfl (lv_at hl 1 rfl) ?_
  refine lv_dup2_11 hx hb dX6_follows_5 rfl rfl ?_
  refine z_iald Z M 9 (h0 := ad 10) (n := 12) (f := σ 10) rfl (j := i) (by omega) (by decide) dX6_follows_6 ?_
  refine lv_aload_n hx hb dX6_follows_7 rfl (lv_at hl 0 rfl) ?_
  refine z_getf Z M hin6 0 rfl rfl 9 (by decide) L31 rfl (v := .ref (ad 9)) rfl dX6_follows_8 ?_
  refine lv_iload_n hx hb dX6_follows_11 rfl (lv_at hl 1 rfl) ?_
  refine z_iald Z M 8 (h0 := ad 9) (n := 12) (f := σ 9) rfl (j := i) (by omega) (by decide) dX6_follows_12 ?_
  refine lv_aload_n hx hb dX6_follows_13 rfl (lv_at hl 0 rfl) ?_
  refine z_getf Z M hin6 0 rfl rfl 10 (by decide) L34 rfl (v := .ref (ad 10)) rfl dX6_follows_14 ?_
  refine lv_iload_n hx hb dX6_follows_17 rfl (lv_at hl 1 rfl) ?_
  refine z_iald Z M 9 (h0 := ad 10) (n := 12) (f := σ 10) rfl (j := i) (by omega) (by decide) dX6_follows_18 ?_
  refine lv_isub hx hb dX6_follows_19 ?_
  refine lv_bipush (v := 6) hx hb dX6_follows_20 (by decide) ?_
  refine lv_idiv hx hb dX6_follows_22 (by decide) ?_
  refine lv_iadd hx hb dX6_follows_23 ?_
  refine z_iast Z M 9 (h0 := ad 10) (n := 12) (f := σ 10) rfl (j := i) (x := ((σ 10) i) + ((((σ 9) i) - ((σ 10) i)) / 6)) (by omega) (by decide) (ws' := mW o ad T (upS σ 10 (upd (σ 10) i (((σ 10) i) + ((((σ 9) i) - ((σ 10) i)) / 6))))) rfl dX6_follows_24 (fun H locs M => ?_)
  exact hret _ _ _ _ _ ls _ M (rfl) (Nat.le_refl _) (Nat.le_refl _) dX6_follows_25
