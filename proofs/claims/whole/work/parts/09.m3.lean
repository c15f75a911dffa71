/-! ===== laid by program ===== -/
set_option maxHeartbeats 4000000 in
set_option maxRecDepth 100000 in
theorem cm_job_bad (l : Launch) (D : va_G) (T : Nat → ClassId) (o : Nat) (ad : Nat → Nat) (σ : Nat → Nat → Int32) (w : Int32) (hg : ¬ gth (bin (w) (200) (1300)) (if σ 26 0 < 12 then 1 else 0) (1) = 0) : ZI l yX6_job wsX6_job (zrm 1 23) D T (mW o ad T σ) (mW o ad T (upS σ 31 (fun _ => gth (bin (w) (200) (1300)) (if σ 26 0 < 12 then 1 else 0) (1)))) [.ref o, .int (w)] (0) 0 0 := by
  refine z_inI (cc := cX6_job) (maxL := 3) (rt := .int) (by decide +kernel) rfl (Nat.le_of_ble_eq_true rfl) ?_
  intro p e s m args below meth c sl9 A Q Z hnm Mz9 hl9 hret
  have Z : zC p s m args c cX6_job 3 RX6 wsX6_job D T A := Z
  have hx := Z.1.1
  have hb := Z.1.2.1
  have hts := Z.1.2.2.2.2
  have hin6 : ∀ w ∈ wsX60, w ∈ wsX6_job := fun w h => List.mem_cons_of_mem _ (List.mem_append_right _ h)
  have hH0 : s.heap = s.heap := rfl
  have L186 := hts (.fieldLink RX6 186 "AnvilHouseModel" "jobs" "I") (by decide +kernel)
  have L77 := hts (.fieldLink RX6 77 "AnvilHouseModel" "job" "[I") (by decide +kernel)
  have hl9 : lv_has sl9 3 [(0, .ref o), (1, .int (w))] := hl9
  refine lv_aload_n hx hb dX6_job_0 rfl (lv_at hl9 0 rfl) ?_
  refine lv_iload_n hx hb dX6_job_1 rfl (lv_at hl9 1 rfl) ?_
  refine lv_sipush (v := 200) hx hb dX6_job_2 (by decide) ?_
  refine lv_sipush (v := 1300) hx hb dX6_job_5 (by decide) ?_
  refine z_callSi (As := [.int (w), .int 200, .int 1300]) (rest := [.ref o]) Z.1 (cm_in l (w) (200) (1300)) (va_cwS 3 hts gX6_job_X6_in rfl rfl rfl (by decide +kernel) ⟨by decide, by decide⟩) rfl hl9.1 (Nat.le_of_ble_eq_true rfl) dX6_job_8 ⟨by decide, by decide⟩ rfl ?_
  refine lv_aload_n hx hb dX6_job_11 rfl (lv_at hl9 0 rfl) ?_
  refine z_getf Z Mz9 hin6 0 rfl rfl 26 (by decide) L186 rfl (v := .int (σ 26 0)) rfl dX6_job_12 ?_
  refine lv_bipush (v := 12) hx hb dX6_job_15 (by decide) ?_
  refine lv_icmp_ge (tgt := 24) hx hb dX6_job_17 (by decide) (fun c_1 => ?_) (fun c_1 => ?_)
  ·
    refine lv_iconst (v := 0) hx hb dX6_job_24 (by decide) ?_
    refine lv_iconst (v := 1) hx hb dX6_job_25 (by decide) ?_
    refine z_callAi (As := [.int (bin (w) (200) (1300)), .int 0, .int 1]) (rest := []) (rv := if gth (bin (w) (200) (1300)) (0) (1) = 0 then 1 else 0) (wc' := mW o ad T (upS σ 31 (fun _ => gth (bin (w) (200) (1300)) (0) (1)))) Z Mz9 (cm_goes l D T o ad (σ) (bin (w) (200) (1300)) (0) (1)) (cwV 3 hts gX6_job_X6_goes rfl rfl rfl (by decide +kernel) ⟨by decide, by decide⟩) (va_recv Z.2.1 Mz9.1 (ci := 7) (q0 := 0) rfl rfl) rfl hl9.1 (Nat.le_of_ble_eq_true rfl) dX6_job_26 ⟨by decide, by decide⟩ rfl (fun Hp9 lc9 Mz9 => ?_)
    refine zn_top (y := 0) (by have h := hg; simp only [if_neg (Int32.not_lt.mpr c_1)] at h; exact if_neg h) ?_
    refine lv_if_ne (tgt := 34) hx hb dX6_job_29 (by decide) (fun h => absurd h (by decide)) (fun _ => ?_)
    refine lv_iconst (v := 0) hx hb dX6_job_32 (by decide) ?_
    exact hret _ _ _ _ _ sl9 _ _ Mz9 (by simp only [if_neg (Int32.not_lt.mpr c_1)] <;> rfl) (rfl) (rfl) (Nat.le_refl _) (Nat.le_refl _) dX6_job_33
  ·
    refine lv_iconst (v := 1) hx hb dX6_job_20 (by decide) ?_
    refine lv_goto (tgt := 25) hx hb dX6_job_21 (by decide) ?_
    refine lv_iconst (v := 1) hx hb dX6_job_25 (by decide) ?_
    refine z_callAi (As := [.int (bin (w) (200) (1300)), .int 1, .int 1]) (rest := []) (rv := if gth (bin (w) (200) (1300)) (1) (1) = 0 then 1 else 0) (wc' := mW o ad T (upS σ 31 (fun _ => gth (bin (w) (200) (1300)) (1) (1)))) Z Mz9 (cm_goes l D T o ad (σ) (bin (w) (200) (1300)) (1) (1)) (cwV 3 hts gX6_job_X6_goes rfl rfl rfl (by decide +kernel) ⟨by decide, by decide⟩) (va_recv Z.2.1 Mz9.1 (ci := 7) (q0 := 0) rfl rfl) rfl hl9.1 (Nat.le_of_ble_eq_true rfl) dX6_job_26 ⟨by decide, by decide⟩ rfl (fun Hp9 lc9 Mz9 => ?_)
    refine zn_top (y := 0) (by have h := hg; simp only [if_pos (Int32.not_le.mp c_1)] at h; exact if_neg h) ?_
    refine lv_if_ne (tgt := 34) hx hb dX6_job_29 (by decide) (fun h => absurd h (by decide)) (fun _ => ?_)
    refine lv_iconst (v := 0) hx hb dX6_job_32 (by decide) ?_
    exact hret _ _ _ _ _ sl9 _ _ Mz9 (by simp only [if_pos (Int32.not_le.mp c_1)] <;> rfl) (rfl) (rfl) (Nat.le_refl _) (Nat.le_refl _) dX6_job_33
set_option maxHeartbeats 4000000 in
set_option maxRecDepth 100000 in
theorem cm_job_ok (l : Launch) (D : va_G) (T : Nat → ClassId) (o : Nat) (ad : Nat → Nat) (σ : Nat → Nat → Int32) (nj : Nat) (w : Int32) (hnj : nj < 12) (h26 : σ 26 0 = nI nj) (h1 : bin w 200 1300 = 1) : ZI l yX6_job wsX6_job (zrm 1 23) D T (mW o ad T σ) (mW o ad T (upS (upS (upS σ 26 (fun _ => nI (nj + 1))) 27 (ins (σ 27) w nj)) 31 (fun _ => 0))) [.ref o, .int (w)] (nI (nj + 1)) 0 0 := by
  refine z_inI (cc := cX6_job) (maxL := 3) (rt := .int) (by decide +kernel) rfl (Nat.le_of_ble_eq_true rfl) ?_
  intro p e s m args below meth c sl9 A Q Z hnm Mz9 hl9 hret
  have Z : zC p s m args c cX6_job 3 RX6 wsX6_job D T A := Z
  have hx := Z.1.1
  have hb := Z.1.2.1
  have hts := Z.1.2.2.2.2
  have hin6 : ∀ w ∈ wsX60, w ∈ wsX6_job := fun w h => List.mem_cons_of_mem _ (List.mem_append_right _ h)
  have hH0 : s.heap = s.heap := rfl
  have L186 := hts (.fieldLink RX6 186 "AnvilHouseModel" "jobs" "I") (by decide +kernel)
  have L77 := hts (.fieldLink RX6 77 "AnvilHouseModel" "job" "[I") (by decide +kernel)
  have hl9 : lv_has sl9 3 [(0, .ref o), (1, .int (w))] := hl9
  refine lv_aload_n hx hb dX6_job_0 rfl (lv_at hl9 0 rfl) ?_
  refine lv_iload_n hx hb dX6_job_1 rfl (lv_at hl9 1 rfl) ?_
  refine lv_sipush (v := 200) hx hb dX6_job_2 (by decide) ?_
  refine lv_sipush (v := 1300) hx hb dX6_job_5 (by decide) ?_
  refine z_callSi (As := [.int (w), .int 200, .int 1300]) (rest := [.ref o]) Z.1 (cm_in l (w) (200) (1300)) (va_cwS 3 hts gX6_job_X6_in rfl rfl rfl (by decide +kernel) ⟨by decide, by decide⟩) rfl hl9.1 (Nat.le_of_ble_eq_true rfl) dX6_job_8 ⟨by decide, by decide⟩ rfl ?_
  refine zn_top (y := 1) (h1) ?_
  refine lv_aload_n hx hb dX6_job_11 rfl (lv_at hl9 0 rfl) ?_
  refine z_getf Z Mz9 hin6 0 rfl rfl 26 (by decide) L186 rfl (v := .int (σ 26 0)) rfl dX6_job_12 ?_
  refine zn_top (y := nI (nj)) (h26) ?_
  refine lv_bipush (v := 12) hx hb dX6_job_15 (by decide) ?_
  refine zn_icmp_ge (a := nj) (b := 12) (tgt := 24) (by omega) (by decide) hx hb dX6_job_17 (by decide) (fun h => absurd h (by omega)) (fun _ => ?_)
  refine lv_iconst (v := 1) hx hb dX6_job_20 (by decide) ?_
  refine lv_goto (tgt := 25) hx hb dX6_job_21 (by decide) ?_
  refine lv_iconst (v := 1) hx hb dX6_job_25 (by decide) ?_
  refine z_callAi (As := [.int 1, .int 1, .int 1]) (rest := []) (rv := if gth (1) (1) (1) = 0 then 1 else 0) (wc' := mW o ad T (upS σ 31 (fun _ => 0))) Z Mz9 (cm_goes l D T o ad (σ) (1) (1) (1)) (cwV 3 hts gX6_job_X6_goes rfl rfl rfl (by decide +kernel) ⟨by decide, by decide⟩) (va_recv Z.2.1 Mz9.1 (ci := 7) (q0 := 0) rfl rfl) rfl hl9.1 (Nat.le_of_ble_eq_true rfl) dX6_job_26 ⟨by decide, by decide⟩ rfl (fun Hp9 lc9 Mz9 => ?_)
  refine zn_top (y := 1) (by decide) ?_
  refine lv_if_ne (tgt := 34) hx hb dX6_job_29 (by decide) (fun _ => ?_) (fun h => absurd h (by decide))
  refine lv_aload_n hx hb dX6_job_34 rfl (lv_at hl9 0 rfl) ?_
  refine z_getf Z Mz9 hin6 0 rfl rfl 26 (by decide) L186 rfl (v := .int (σ 26 0)) rfl dX6_job_35 ?_
  refine zn_top (y := nI (nj)) (h26) ?_
  refine lv_istore_n (lv' := [(2, .int (nI (nj))), (0, .ref o), (1, .int (w))]) hx hb dX6_job_38 rfl hl9 (by decide) rfl (fun sl9 hl9 => ?_)
  have LP39_1 : ∀ (k : Nat) (f9 : Nat → Int32), k ≤ nj → ins (σ 27) w nj = ins f9 w (k) → ∀ (Hp9 : Heap) (lc9 : List Loc) (sl9 : Array Slot), zM D A s.heap (mW o ad T (upS (upS σ 27 (f9)) 31 (fun _ => 0))) Hp9 lc9 → lv_has sl9 3 [(0, .ref o), (1, .int (w)), (2, .int (nI (k)))] → W p l e (zrm 1 23) s m args below meth c Hp9 lc9 0 0 Q (F0 m 39 sl9 []) := by
    intro k
    induction k with
    | zero =>
      intro f9 h90 h91 Hp9 lc9 sl9 Mz9 hl9
      refine lv_iload_n hx hb dX6_job_39 rfl (lv_at hl9 2 rfl) ?_
      refine zn_if_le (a := 0) (tgt := 75) (by omega) hx hb dX6_job_40 (by decide) (fun _ => ?_) (fun h => absurd h (by decide))
      refine lv_aload_n hx hb dX6_job_75 rfl (lv_at hl9 0 rfl) ?_
      refine z_getf Z Mz9 hin6 0 rfl rfl 27 (by decide) L77 rfl (v := .ref (ad 27)) rfl dX6_job_76 ?_
      refine lv_iload_n hx hb dX6_job_79 rfl (lv_at hl9 2 rfl) ?_
      refine lv_iload_n hx hb dX6_job_80 rfl (lv_at hl9 1 rfl) ?_
      refine z_iast Z Mz9 23 (h0 := ad 27) (n := 12) (f := f9) rfl (j := 0) (x := w) (by omega) (by decide) (ws' := mW o ad T (upS (upS σ 27 (upd f9 0 w)) 31 (fun _ => 0))) rfl dX6_job_81 (fun Hp9 lc9 Mz9 => ?_)
      refine lv_aload_n hx hb dX6_job_82 rfl (lv_at hl9 0 rfl) ?_
      refine lv_dup hx hb dX6_job_83 rfl ?_
      refine z_getf Z Mz9 hin6 0 rfl rfl 26 (by decide) L186 rfl (v := .int (σ 26 0)) rfl dX6_job_84 ?_
      refine zn_top (y := nI (nj)) (h26) ?_
      refine lv_iconst (v := 1) hx hb dX6_job_87 (by decide) ?_
      refine zn_iadd (a := nj) (b := 1) hx hb dX6_job_88 ?_
      refine z_putf Z Mz9 hin6 tyX6 tyX6_ok nmX6 0 rfl rfl 26 (by decide) L186 rfl rfl (ty := .int) rfl rfl rfl (Nat.le_of_ble_eq_true rfl) (ws' := mW o ad T (upS (upS (upS σ 26 (fun _ => nI (nj + 1))) 27 (upd f9 0 w)) 31 (fun _ => 0))) rfl dX6_job_89 (fun Hp9 lc9 Mz9 => ?_)
      refine lv_aload_n hx hb dX6_job_92 rfl (lv_at hl9 0 rfl) ?_
      refine z_getf Z Mz9 hin6 0 rfl rfl 26 (by decide) L186 rfl (v := .int (nI (nj + 1))) rfl dX6_job_93 ?_
      exact hret _ _ _ _ _ sl9 _ _ Mz9 (by rw [h91]; rfl) (rfl) (rfl) (Nat.le_refl _) (Nat.le_refl _) dX6_job_96
    | succ k ih39 =>
      intro f9 h90 h91 Hp9 lc9 sl9 Mz9 hl9
      refine lv_iload_n hx hb dX6_job_39 rfl (lv_at hl9 2 rfl) ?_
      refine zn_if_le (a := k + 1) (tgt := 75) (by omega) hx hb dX6_job_40 (by decide) (fun h => absurd h (by omega)) (fun _ => ?_)
      refine lv_aload_n hx hb dX6_job_43 rfl (lv_at hl9 0 rfl) ?_
      refine z_getf Z Mz9 hin6 0 rfl rfl 27 (by decide) L77 rfl (v := .ref (ad 27)) rfl dX6_job_44 ?_
      refine lv_iload_n hx hb dX6_job_47 rfl (lv_at hl9 2 rfl) ?_
      refine lv_iconst (v := 1) hx hb dX6_job_48 (by decide) ?_
      refine zn_isub (a := k + 1) (b := 1) (by omega) hx hb dX6_job_49 ?_
      refine z_iald Z Mz9 23 (h0 := ad 27) (n := 12) (f := f9) rfl (j := k) (by omega) (by decide) dX6_job_50 ?_
      refine lv_iload_n hx hb dX6_job_51 rfl (lv_at hl9 1 rfl) ?_
      refine lv_icmp_le (tgt := 75) hx hb dX6_job_52 (by decide) (fun c_1 => ?_) (fun c_1 => ?_)
      ·
        refine lv_aload_n hx hb dX6_job_75 rfl (lv_at hl9 0 rfl) ?_
        refine z_getf Z Mz9 hin6 0 rfl rfl 27 (by decide) L77 rfl (v := .ref (ad 27)) rfl dX6_job_76 ?_
        refine lv_iload_n hx hb dX6_job_79 rfl (lv_at hl9 2 rfl) ?_
        refine lv_iload_n hx hb dX6_job_80 rfl (lv_at hl9 1 rfl) ?_
        refine z_iast Z Mz9 23 (h0 := ad 27) (n := 12) (f := f9) rfl (j := k + 1) (x := w) (by omega) (by decide) (ws' := mW o ad T (upS (upS σ 27 (upd f9 (k + 1) w)) 31 (fun _ => 0))) rfl dX6_job_81 (fun Hp9 lc9 Mz9 => ?_)
        refine lv_aload_n hx hb dX6_job_82 rfl (lv_at hl9 0 rfl) ?_
        refine lv_dup hx hb dX6_job_83 rfl ?_
        refine z_getf Z Mz9 hin6 0 rfl rfl 26 (by decide) L186 rfl (v := .int (σ 26 0)) rfl dX6_job_84 ?_
        refine zn_top (y := nI (nj)) (h26) ?_
        refine lv_iconst (v := 1) hx hb dX6_job_87 (by decide) ?_
        refine zn_iadd (a := nj) (b := 1) hx hb dX6_job_88 ?_
        refine z_putf Z Mz9 hin6 tyX6 tyX6_ok nmX6 0 rfl rfl 26 (by decide) L186 rfl rfl (ty := .int) rfl rfl rfl (Nat.le_of_ble_eq_true rfl) (ws' := mW o ad T (upS (upS (upS σ 26 (fun _ => nI (nj + 1))) 27 (upd f9 (k + 1) w)) 31 (fun _ => 0))) rfl dX6_job_89 (fun Hp9 lc9 Mz9 => ?_)
        refine lv_aload_n hx hb dX6_job_92 rfl (lv_at hl9 0 rfl) ?_
        refine z_getf Z Mz9 hin6 0 rfl rfl 26 (by decide) L186 rfl (v := .int (nI (nj + 1))) rfl dX6_job_93 ?_
        exact hret _ _ _ _ _ sl9 _ _ Mz9 (by rw [h91]; simp only [ins, if_neg (Int32.not_lt.mpr c_1)]) (rfl) (rfl) (Nat.le_refl _) (Nat.le_refl _) dX6_job_96
      ·
        refine lv_aload_n hx hb dX6_job_55 rfl (lv_at hl9 0 rfl) ?_
        refine z_getf Z Mz9 hin6 0 rfl rfl 27 (by decide) L77 rfl (v := .ref (ad 27)) rfl dX6_job_56 ?_
        refine lv_iload_n hx hb dX6_job_59 rfl (lv_at hl9 2 rfl) ?_
        refine lv_aload_n hx hb dX6_job_60 rfl (lv_at hl9 0 rfl) ?_
        refine z_getf Z Mz9 hin6 0 rfl rfl 27 (by decide) L77 rfl (v := .ref (ad 27)) rfl dX6_job_61 ?_
        refine lv_iload_n hx hb dX6_job_64 rfl (lv_at hl9 2 rfl) ?_
        refine lv_iconst (v := 1) hx hb dX6_job_65 (by decide) ?_
        refine zn_isub (a := k + 1) (b := 1) (by omega) hx hb dX6_job_66 ?_
        refine z_iald Z Mz9 23 (h0 := ad 27) (n := 12) (f := f9) rfl (j := k) (by omega) (by decide) dX6_job_67 ?_
        refine z_iast Z Mz9 23 (h0 := ad 27) (n := 12) (f := f9) rfl (j := k + 1) (x := f9 k) (by omega) (by decide) (ws' := mW o ad T (upS (upS σ 27 (upd f9 (k + 1) (f9 k))) 31 (fun _ => 0))) rfl dX6_job_68 (fun Hp9 lc9 Mz9 => ?_)
        refine lv_iinc (v := nI (k)) (lv' := [(2, .int (nI (k))), (0, .ref o), (1, .int (w))]) hx hb dX6_job_69 hl9 (k := 2) rfl (z_pred (by omega)) (by decide) rfl (fun sl9 hl9 => ?_)
        refine lv_goto (tgt := 39) hx hb dX6_job_72 (by decide) ?_
        exact ih39 (upd f9 (k + 1) (f9 k)) (by omega) (by rw [h91, ins]; simp only [if_pos (Int32.not_le.mp c_1)]) _ _ _ (zM_w (by rfl) Mz9) (lv_sub hl9 [1, 2, 0] rfl)
  exact LP39_1 nj (σ 27) (Nat.le_refl _) (rfl) _ _ _ (zM_w (by rw [← upS_id (upS σ 31 (fun _ => 0)) 27]; rfl) Mz9) (lv_sub hl9 [1, 2, 0] rfl)
set_option maxHeartbeats 4000000 in
set_option maxRecDepth 100000 in
theorem cm_planned_ok (l : Launch) (D : va_G) (T : Nat → ClassId) (o : Nat) (ad : Nat → Nat) (σ : Nat → Nat → Int32) (nj q : Nat) (hnj : nj ≤ 12) (h26 : σ 26 0 = nI nj) (hq : q < nj) : ZI l yX6_planned wsX6_planned (zrm 3 62) D T (mW o ad T σ) (mW o ad T (upS σ 31 (fun _ => 0))) [.ref o, .int (nI (q))] (if (if btw (σ 28 0) (σ 27 (nj - 1)) < btw (σ 28 0) (σ 27 0) then (0 : Int32) else 1) = 0 then σ 27 (nj - 1 - q) else σ 27 q) 0 0 := by
  refine z_inI (cc := cX6_planned) (maxL := 2) (rt := .int) (by decide +kernel) rfl (Nat.le_of_ble_eq_true rfl) ?_
  intro p e s m args below meth c sl9 A Q Z hnm Mz9 hl9 hret
  have Z : zC p s m args c cX6_planned 2 RX6 wsX6_planned D T A := Z
  have hx := Z.1.1
  have hb := Z.1.2.1
  have hts := Z.1.2.2.2.2
  have hin6 : ∀ w ∈ wsX60, w ∈ wsX6_planned := fun w h => List.mem_cons_of_mem _ (List.mem_append_right _ h)
  have hH0 : s.heap = s.heap := rfl
  have L186 := hts (.fieldLink RX6 186 "AnvilHouseModel" "jobs" "I") (by decide +kernel)
  have hl9 : lv_has sl9 2 [(0, .ref o), (1, .int (nI (q)))] := hl9
  refine lv_aload_n hx hb dX6_planned_0 rfl (lv_at hl9 0 rfl) ?_
  refine lv_iload_n hx hb dX6_planned_1 rfl (lv_at hl9 1 rfl) ?_
  refine zn_if_lt (a := q) (tgt := 9) (by omega) hx hb dX6_planned_2 (by decide) (fun h => absurd h (fun h => h)) (fun _ => ?_)
  refine lv_iconst (v := 1) hx hb dX6_planned_5 (by decide) ?_
  refine lv_goto (tgt := 10) hx hb dX6_planned_6 (by decide) ?_
  refine lv_iconst (v := 1) hx hb dX6_planned_10 (by decide) ?_
  refine lv_iconst (v := 1) hx hb dX6_planned_11 (by decide) ?_
  refine z_callAi (As := [.int 1, .int 1, .int 1]) (rest := []) (rv := if gth (1) (1) (1) = 0 then 1 else 0) (wc' := mW o ad T (upS σ 31 (fun _ => 0))) Z Mz9 (cm_goes l D T o ad (σ) (1) (1) (1)) (cwV 3 hts gX6_planned_X6_goes rfl rfl rfl (by decide +kernel) ⟨by decide, by decide⟩) (va_recv Z.2.1 Mz9.1 (ci := 7) (q0 := 0) rfl rfl) rfl hl9.1 (Nat.le_of_ble_eq_true rfl) dX6_planned_12 ⟨by decide, by decide⟩ rfl (fun Hp9 lc9 Mz9 => ?_)
  refine zn_top (y := 1) (by decide) ?_
  refine lv_if_ne (tgt := 20) hx hb dX6_planned_15 (by decide) (fun _ => ?_) (fun h => absurd h (by decide))
  refine lv_iload_n hx hb dX6_planned_20 rfl (lv_at hl9 1 rfl) ?_
  refine lv_aload_n hx hb dX6_planned_21 rfl (lv_at hl9 0 rfl) ?_
  refine z_getf Z Mz9 hin6 0 rfl rfl 26 (by decide) L186 rfl (v := .int (σ 26 0)) rfl dX6_planned_22 ?_
  refine zn_top (y := nI (nj)) (h26) ?_
  refine zn_icmp_ge (a := q) (b := nj) (tgt := 36) (by omega) (by omega) hx hb dX6_planned_25 (by decide) (fun h => absurd h (by omega)) (fun _ => ?_)
  refine lv_aload_n hx hb dX6_planned_28 rfl (lv_at hl9 0 rfl) ?_
  refine lv_iload_n hx hb dX6_planned_29 rfl (lv_at hl9 1 rfl) ?_
  refine z_callAi (As := [.int (nI (q))]) (rest := []) (rv := if (if btw (σ 28 0) ((σ 27) (nj - 1)) < btw (σ 28 0) ((σ 27) 0) then (0 : Int32) else 1) = 0 then (σ 27) (nj - 1 - q) else (σ 27) q) (wc' := mW o ad T (upS σ 31 (fun _ => 0))) Z Mz9 (cm_jobAt l D T o ad (upS σ 31 (fun _ => 0)) nj (q) (by omega) (by omega) h26 (by omega)) (cwV 1 hts gX6_planned_X6_jobAt rfl rfl rfl (by decide +kernel) ⟨by decide, by decide⟩) (va_recv Z.2.1 Mz9.1 (ci := 7) (q0 := 0) rfl rfl) rfl hl9.1 (Nat.le_of_ble_eq_true rfl) dX6_planned_30 ⟨by decide, by decide⟩ rfl (fun Hp9 lc9 Mz9 => ?_)
  refine lv_goto (tgt := 37) hx hb dX6_planned_33 (by decide) ?_
  exact hret _ _ _ _ _ sl9 _ _ Mz9 (rfl) (rfl) (rfl) (Nat.le_refl _) (Nat.le_refl _) dX6_planned_37
