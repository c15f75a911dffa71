/-! ===== laid by program ===== -/
set_option maxHeartbeats 4000000 in
set_option maxRecDepth 100000 in
theorem cm_job_bad (l : Launch) (D : va_G) (T : Nat → ClassId) (o : Nat) (ad : Nat → Nat) (σ : Nat → Nat → Int32) (w : Int32) (hg : ¬ gth (bin (w) (200) (1300)) (if σ 26 0 < 12 then 1 else 0) (1) = 0) : ZI l yX6_job wsX6_job (zrm 1 23) D T (mW o ad T σ) (mW o ad T (upS σ 31 (fun _ => gth (bin (w) (200) (1300)) (if σ 26 0 < 12 then 1 else 0) (1)))) [.ref o, .int (w)] (0) 0 0 := by
  refine z_inI (cc := cX6_job) (maxL := 3) (rt := .int) (by decide +kernel) rfl (Nat.le_of_ble_eq_true rfl) ?_
  intro p e s m args below meth c sl9 A Q Z hnm Mz9 hl9 hret
  have Z : zC p s m args c cX6_job 3 RX6 wsX6_job D T A := Z
  have hx := Z.1.1
  have hb := Z.1.2.1
  have hts := Z.1.2.2.2.2
  have hin6 : ∀ w ∈ wsX60, w ∈ wsX6_job := fun w h => List.mem_cons_of_mem _ (List.mem_append_right _ h)
  have hH0 : s.heap = s.heap := rfl
  have L186 := hts (.fieldLink RX6 186 "AnvilHouseModel" "jobs" "I") (by decide +kernel)
  have L77 := hts (.fieldLink RX6 77 "AnvilHouseModel" "job" "[I") (by decide +kernel)
  have hl9 : lv_has sl9 3 [(0, .ref o), (1, .int (w))] := hl9
  refine lv_aload_n hx hb dX6_job_0 rfl (lv_at hl9 0 rfl) ?_
  refine lv_iload_n hx hb dX6_job_1 rfl (lv_at hl9 1 rfl) ?_
  refine lv_sipush (v := 200) hx hb dX6_job_2 (by decide) ?_
  refine lv_sipush (v := 1300) hx hb dX6_job_5 (by decide) ?_
  refine z_callSi (As := [.int (w), .int 200, .int 1300]) (rest := [.ref o]) Z.1 (cm_in l (w) (200) (1300)) (va_cwS 3 hts gX6_job_X6_in rfl rfl rfl (by decide +kernel) ⟨by decide, by decide⟩) rfl hl9.1 (Nat.le_of_ble_eq_true rfl) dX6_job_8 ⟨by decide, by decide⟩ rfl ?_
  refine lv_aload_n hx hb dX6_job_11 rfl (lv_at hl9 0 rfl) ?_
  refine z_getf Z Mz9 hin6 0 rfl rfl 26 (by decide) L186 rfl (v := .int (σ 26 0)) rfl dX6_job_12 ?_
  refine lv_bipush (v := 12) hx hb dX6_job_15 (by decide) ?_
  refine lv_icmp_ge (tgt := 24) hx hb dX6_job_17 (by decide) (fun c_1 => ?_) (fun c_1 => ?_)
  ·
    refine lv_iconst (v := 0) hx hb dX6_job_24 (by decide) ?_
    refine lv_iconst (v := 1) hx hb dX6_job_25 (by decide) ?_
    refine z_callAi (As := [.int (bin (w) (200) (1300)), .int 0, .int 1]) (rest := []) (rv := if gth (bin (w) (200) (1300)) (0) (1) = 0 then 1 else 0) (wc' := mW o ad T (upS σ 31 (fun _ => gth (bin (w) (200) (1300)) (0) (1)))) Z Mz9 (cm_goes l D T o ad (σ) (bin (w) (200) (1300)) (0) (1)) (cwV 3 hts gX6_job_X6_goes rfl rfl rfl (by decide +kernel) ⟨by decide, by decide⟩) (va_recv Z.2.1 Mz9.1 (ci := 7) (q0 := 0) rfl rfl) rfl hl9.1 (Nat.le_of_ble_eq_true rfl) dX6_job_26 ⟨by decide, by decide⟩ rfl (fun Hp9 lc9 Mz9 => ?_)
    refine zn_top (y := 0) (by have h := hg; simp only [if_neg (Int32.not_lt.mpr c_1)] at h; exact if_neg h) ?_
    refine lv_if_ne (tgt := 34) hx hb dX6_job_29 (by decide) (fun h => absurd h (by decide)) (fun _ => ?_)
    refine lv_iconst (v := 0) hx hb dX6_job_32 (by decide) ?_
    exact hret _ _ _ _ _ sl9 _ _ Mz9 (by simp only [if_neg (Int32.not_lt.mpr c_1)] <;> rfl) (rfl) (rfl) (Nat.le_refl _) (Nat.le_refl _) dX6_job_33
  ·
    refine lv_iconst (v := 1) hx hb dX6_job_20 (by decide) ?_
    refine lv_goto (tgt := 25) hx hb dX6_job_21 (by decide) ?_
    refine lv_iconst (v := 1) hx hb dX6_job_25 (by decide) ?_
    refine z_callAi (As := [.int (bin (w) (200) (1300)), .int 1, .int 1]) (rest := []) (rv := if gth (bin (w) (200) (1300)) (1) (1) = 0 then 1 else 0) (wc' := mW o ad T (upS σ 31 (fun _ => gth (bin (w) (200) (1300)) (1) (1)))) Z Mz9 (cm_goes l D T o ad (σ) (bin (w) (200) (1300)) (1) (1)) (cwV 3 hts gX6_job_X6_goes rfl rfl rfl (by decide +kernel) ⟨by decide, by decide⟩) (va_recv Z.2.1 Mz9.1 (ci := 7) (q0 := 0) rfl rfl) rfl hl9.1 (Nat.le_of_ble_eq_true rfl) dX6_job_26 ⟨by decide, by decide⟩ rfl (fun Hp9 lc9 Mz9 => ?_)
    refine zn_top (y := 0) (by have h := hg; simp only [if_pos (Int32.not_le.mp c_1)] at h; exact if_neg h) ?_
    refine lv_if_ne (tgt := 34) hx hb dX6_job_29 (by decide) (fun h => absurd h (by decide)) (fun _ => ?_)
    refine lv_iconst (v := 0) hx hb dX6_job_32 (by decide) ?_
    exact hret _ _ _ _ _ sl9 _ _ Mz9 (by simp only [if_pos (Int32.not_le.mp c_1)] <;> rfl) (rfl) (rfl) (Nat.le_refl _) (Nat.le_refl _) dX6_job_33
set_option maxHeartbeats 4000000 in
set_option maxRecDepth 100000 in
theorem cm_job_ok (l : Launch) (D : va_G) (T : Nat → ClassId) (o : Nat) (ad : Nat → Nat) (σ : Nat → Nat → Int32) (nj : Nat) (w : Int32) (hnj : nj < 12) (h26 : σ 26 0 = nI nj) (h1 : bin w 200 1300 = 1) : ZI l yX6_job wsX6_job (zrm 1 23) D T (mW o ad T σ) (mW o ad T (upS (upS (upS σ 26 (fun _ => nI (nj + 1))) 27 (ins (σ 27) w nj)) 31 (fun _ => 0))) [.ref o, .int (w)] (nI (nj + 1)) 0 0 := by
  refine z_inI (cc := cX6_job) (maxL := 3) (rt := .int) (by decide +kernel) rfl (Nat.le_of_ble_eq_true rfl) ?_
  intro p e s m args below meth c sl9 A Q Z hnm Mz9 hl9 hret
  have Z : zC p s m args c cX6_job 3 RX6 wsX6_job D T A := Z
  have hx := Z.1.1
  have hb := Z.1.2.1
  have hts := Z.1.2.2.2.2
  have hin6 : ∀ w ∈ wsX60, w ∈ wsX6_job := fun w h => List.mem_cons_of_mem _ (List.mem_append_right _ h)
  have hH0 : s.heap = s.heap := rfl
  have L186 := hts (.fieldLink RX6 186 "AnvilHouseModel" "jobs" "I") (by decide +kernel)
  have L77 := hts (.fieldLink RX6 77 "AnvilHouseModel" "job" "[I") (by decide +kernel)
  have hl9 : lv_has sl9 3 [(0, .ref o), (1, .int (w))] := hl9
  refine lv_aload_n hx hb dX6_job_0 rfl (lv_at hl9 0 rfl) ?_
  refine lv_iload_n hx hb dX6_job_1 rfl (lv_at hl9 1 rfl) ?_
  refine lv_sipush (v := 200) hx hb dX6_job_2 (by decide) ?_
  refine lv_sipush (v := 1300) hx hb dX6_job_5 (by decide) ?_
  refine z_callSi (As := [.int (w), .int 200, .int 1300]) (rest := [.ref o]) Z.1 (cm_in l (w) (200) (1300)) (va_cwS 3 hts gX6_job_X6_in rfl rfl rfl (by decide +kernel) ⟨by decide, by decide⟩) rfl hl9.1 (Nat.le_of_ble_eq_true rfl) dX6_job_8 ⟨by decide, by decide⟩ rfl ?_
  refine zn_top (y := 1) (h1) ?_
  refine lv_aload_n hx hb dX6_job_11 rfl (lv_at hl9 0 rfl) ?_
  refine z_getf Z Mz9 hin6 0 rfl rfl 26 (by decide) L186 rfl (v := .int (σ 26 0)) rfl dX6_job_12 ?_
  refine zn_top (y := nI (nj)) (h26) ?_
  refine lv_bipush (v := 12) hx hb dX6_job_15 (by decide) ?_
  refine zn_icmp_ge (a := nj) (b := 12) (tgt := 24) (by omega) (by decide) hx hb dX6_job_17 (by decide) (fun h => absurd h (by omega)) (fun _ => ?_)
  refine lv_iconst (v := 1) hx hb dX6_job_20 (by decide) ?_
  refine lv_goto (tgt := 25) hx hb dX6_job_21 (by decide) ?_
  refine lv_iconst (v := 1) hx hb dX6_job_25 (by decide) ?_
  refine z_callAi (As := [.int 1, .int 1, .int 1]) (rest := []) (rv := if gth (1) (1) (1) = 0 then 1 else 0) (wc' := mW o ad T (upS σ 31 (fun _ => 0))) Z Mz9 (cm_goes l D T o ad (σ) (1) (1) (1)) (cwV 3 hts gX6_job_X6_goes rfl rfl rfl (by decide +kernel) ⟨by decide, by decide⟩) (va_recv Z.2.1 Mz9.1 (ci := 7) (q0 := 0) rfl rfl) rfl hl9.1 (Nat.le_of_ble_eq_true rfl) dX6_job_26 ⟨by decide, by decide⟩ rfl (fun Hp9 lc9 Mz9 => ?_)
  refine zn_top (y := 1) (by decide) ?_
  refine lv_if_ne (tgt := 34) hx hb dX6_job_29 (by decide) (fun _ => ?_) (fun h => absurd h (by decide))
  refine lv_aload_n hx hb dX6_job_34 rfl (lv_at hl9 0 rfl) ?_
  refine z_getf Z Mz9 hin6 0 rfl rfl 26 (by decide) L186 rfl (v := .int (σ 26 0)) rfl dX6_job_35 ?_
  refine zn_top (y := nI (nj)) (h26) ?_
  refine lv_istore_n (lv' := [(2, .int (nI (nj))), (0, .ref o), (1, .int (w))]) hx hb dX6_job_38 rfl hl9 (by decide) rfl (fun sl9 hl9 => ?_)
  have LP39_1 : ∀ (k : Nat) (f9 : Nat → Int32), k ≤ nj → ins (σ 27) w nj = ins f9 w (k) → ∀ (Hp9 : Heap) (lc9 : List Loc) (sl9 : Array Slot), zM D A s.heap (mW o ad T (upS (upS σ 27 (f9)) 31 (fun _ => 0))) Hp9 lc9 → lv_has sl9 3 [(0, .ref o), (1, .int (w)), (2, .int (nI (k)))] → W p l e (zrm 1 23) s m args below meth c Hp9 lc9 0 0 Q (F0 m 39 sl9 []) := by
    intro k
    induction k with
    | zero =>
      intro f9 h90 h91 Hp9 lc9 sl9 Mz9 hl9
      refine lv_iload_n hx hb dX6_job_39 rfl (lv_at hl9 2 rfl) ?_
      refine zn_if_le (a := 0) (tgt := 75) (by omega) hx hb dX6_job_40 (by decide) (fun _ => ?_) (fun h => absurd h (by decide))
      refine lv_aload_n hx hb dX6_job_75 rfl (lv_at hl9 0 rfl) ?_
      refine z_getf Z Mz9 hin6 0 rfl rfl 27 (by decide) L77 rfl (v := .ref (ad 27)) rfl dX6_job_76 ?_
      refine lv_iload_n hx hb dX6_job_79 rfl (lv_at hl9 2 rfl) ?_
      refine lv_iload_n hx hb dX6_job_80 rfl (lv_at hl9 1 rfl) ?_
      refine z_iast Z Mz9 23 (h0 := ad 27) (n := 12) (f := f9) rfl (j := 0) (x := w) (by omega) (by decide) (ws' := mW o ad T (upS (upS σ 27 (upd f9 0 w)) 31 (fun _ => 0))) rfl dX6_job_81 (fun Hp9 lc9 Mz9 => ?_)
      refine lv_aload_n hx hb dX6_job_82 rfl (lv_at hl9 0 rfl) ?_
      refine lv_dup hx hb dX6_job_83 rfl ?_
      refine z_getf Z Mz9 hin6 0 rfl rfl 26 (by decide) L186 rfl (v := .int (σ 26 0)) rfl dX6_job_84 ?_
      refine zn_top (y := nI (nj)) (h26) ?_
      refine lv_iconst (v := 1) hx hb dX6_job_87 (by decide) ?_
      refine zn_iadd (a := nj) (b := 1) hx hb dX6_job_88 ?_
      refine z_putf Z Mz9 hin6 tyX6 tyX6_ok nmX6 0 rfl rfl 26 (by decide) L186 rfl rfl (ty := .int) rfl rfl rfl (Nat.le_of_ble_eq_true rfl) (ws' := mW o ad T (upS (upS (upS σ 26 (fun _ => nI (nj + 1))) 27 (upd f9 0 w)) 31 (fun _ => 0))) rfl dX6_job_89 (fun Hp9 lc9 Mz9 => ?_)
      refine lv_aload_n hx hb dX6_job_92 rfl (lv_at hl9 0 rfl) ?_
      refine z_getf Z Mz9 hin6 0 rfl rfl 26 (by decide) L186 rfl (v := .int (nI (nj + 1))) rfl dX6_job_93 ?_
      exact hret _ _ _ _ _ sl9 _ _ Mz9 (by rw [h91]; rfl) (rfl) (rfl) (Nat.le_refl _) (Nat.le_refl _) dX6_job_96
    | succ k ih39 =>
      intro f9 h90 h91 Hp9 lc9 sl9 Mz9 hl9
      refine lv_iload_n hx hb dX6_job_39 rfl (lv_at hl9 2 rfl) ?_
      refine zn_if_le (a := k + 1) (tgt := 75) (by omega) hx hb dX6_job_40 (by decide) (fun h => absurd h (by omega)) (fun _ => ?_)
      refine lv_aload_n hx hb dX6_job_43 rfl (lv_at hl9 0 rfl) ?_
      refine z_getf Z Mz9 hin6 0 rfl rfl 27 (by decide) L77 rfl (v := .ref (ad 27)) rfl dX6_job_44 ?_
      refine lv_iload_n hx hb dX6_job_47 rfl (lv_at hl9 2 rfl) ?_
      refine lv_iconst (v := 1) hx hb dX6_job_48 (by decide) ?_
      refine zn_isub (a := k + 1) (b := 1) (by omega) hx hb dX6_job_49 ?_
      refine z_iald Z Mz9 23 (h0 := ad 27) (n := 12) (f := f9) rfl (j := k) (by omega) (by decide) dX6_job_50 ?_
      refine lv_iload_n hx hb dX6_job_51 rfl (lv_at hl9 1 rfl) ?_
      refine lv_icmp_le (tgt := 75) hx hb dX6_job_52 (by decide) (fun c_1 => ?_) (fun c_1 => ?_)
      ·
        refine lv_aload_n hx hb dX6_job_75 rfl (lv_at hl9 0 rfl) ?_
        refine z_getf Z Mz9 hin6 0 rfl rfl 27 (by decide) L77 rfl (v := .ref (ad 27)) rfl dX6_job_76 ?_
        refine lv_iload_n hx hb dX6_job_79 rfl (lv_at hl9 2 rfl) ?_
        refine lv_iload_n hx hb dX6_job_80 rfl (lv_at hl9 1 rfl) ?_
        refine z_iast Z Mz9 23 (h0 := ad 27) (n := 12) (f := f9) rfl (j := k + 1) (x := w) (by omega) (by decide) (ws' := mW o ad T (upS (upS σ 27 (upd f9 (k + 1) w)) 31 (fun _ => 0))) rfl dX6_job_81 (fun Hp9 lc9 Mz9 => ?_)
        refine lv_aload_n hx hb dX6_job_82 rfl (lv_at hl9 0 rfl) ?_
        refine lv_dup hx hb dX6_job_83 rfl ?_
        refine z_getf Z Mz9 hin6 0 rfl rfl 26 (by decide) L186 rfl (v := .int (σ 26 0)) rfl dX6_job_84 ?_
        refine zn_top (y := nI (nj)) (h26) ?_
        refine lv_iconst (v := 1) hx hb dX6_job_87 (by decide) ?_
        refine zn_iadd (a := nj) (b := 1) hx hb dX6_job_88 ?_
        refine z_putf Z Mz9 hin6 tyX6 tyX6_ok nmX6 0 rfl rfl 26 (by decide) L186 rfl rfl (ty := .int) rfl rfl rfl (Nat.le_of_ble_eq_true rfl) (ws' := mW o ad T (upS (upS (upS σ 26 (fun _ => nI (nj + 1))) 27 (upd f9 (k + 1) w)) 31 (fun _ => 0))) rfl dX6_job_89 (fun Hp9 lc9 Mz9 => ?_)
        refine lv_aload_n hx hb dX6_job_92 rfl (lv_at hl9 0 rfl) ?_
        refine z_getf Z Mz9 hin6 0 rfl rfl 26 (by decide) L186 rfl (v := .int (nI (nj + 1))) rfl dX6_job_93 ?_
        exact hret _ _ _ _ _ sl9 _ _ Mz9 (by rw [h91]; simp only [ins, if_neg (Int32.not_lt.mpr c_1)]) (rfl) (rfl) (Nat.le_refl _) (Nat.le_refl _) dX6_job_96
      ·
        refine lv_aload_n hx hb dX6_job_55 rfl (lv_at hl9 0 rfl) ?_
        refine z_getf Z Mz9 hin6 0 rfl rfl 27 (by decide) L77 rfl (v := .ref (ad 27)) rfl dX6_job_56 ?_
        refine lv_iload_n hx hb dX6_job_59 rfl (lv_at hl9 2 rfl) ?_
        refine lv_aload_n hx hb dX6_job_60 rfl (lv_at hl9 0 rfl) ?_
        refine z_getf Z Mz9 hin6 0 rfl rfl 27 (by decide) L77 rfl (v := .ref (ad 27)) rfl dX6_job_61 ?_
        refine lv_iload_n hx hb dX6_job_64 rfl (lv_at hl9 2 rfl) ?_
        refine lv_iconst (v := 1) hx hb dX6_job_65 (by decide) ?_
        refine zn_isub (a := k + 1) (b := 1) (by omega) hx hb dX6_job_66 ?_
        refine z_iald Z Mz9 23 (h0 := ad 27) (n := 12) (f := f9) rfl (j := k) (by omega) (by decide) dX6_job_67 ?_
        refine z_iast Z Mz9 23 (h0 := ad 27) (n := 12) (f := f9) rfl (j := k + 1) (x := f9 k) (by omega) (by decide) (ws' := mW o ad T (upS (upS σ 27 (upd f9 (k + 1) (f9 k))) 31 (fun _ => 0))) rfl dX6_job_68 (fun Hp9 lc9 Mz9 => ?_)
        refine lv_iinc (v := nI (k)) (lv' := [(2, .int (nI (k))), (0, .ref o), (1, .int (w))]) hx hb dX6_job_69 hl9 (k := 2) rfl (z_pred (by omega)) (by decide) rfl (fun sl9 hl9 => ?_)
        refine lv_goto (tgt := 39) hx hb dX6_job_72 (by decide) ?_
        exact ih39 (upd f9 (k + 1) (f9 k)) (by omega) (by rw [h91, ins]; simp only [if_pos (Int32.not_le.mp c_1)]) _ _ _ (zM_w (by rfl) Mz9) (lv_sub hl9 [1, 2, 0] rfl)
  exact LP39_1 nj (σ 27) (Nat.le_refl _) (rfl) _ _ _ (zM_w (by rw [← upS_id (upS σ 31 (fun _ => 0)) 27]; rfl) Mz9) (lv_sub hl9 [1, 2, 0] rfl)
set_option maxHeartbeats 4000000 in
set_option maxRecDepth 100000 in
theorem cm_planned_ok (l : Launch) (D : va_G) (T : Nat → ClassId) (o : Nat) (ad : Nat → Nat) (σ : Nat → Nat → Int32) (nj q : Nat) (hnj : nj ≤ 12) (h26 : σ 26 0 = nI nj) (hq : q < nj) : ZI l yX6_planned wsX6_planned (zrm 3 62) D T (mW o ad T σ) (mW o ad T (upS σ 31 (fun _ => 0))) [.ref o, .int (nI (q))] (if (if btw (σ 28 0) (σ 27 (nj - 1)) < btw (σ 28 0) (σ 27 0) then (0 : Int32) else 1) = 0 then σ 27 (nj - 1 - q) else σ 27 q) 0 0 := by
  refine z_inI (cc := cX6_planned) (maxL := 2) (rt := .int) (by decide +kernel) rfl (Nat.le_of_ble_eq_true rfl) ?_
  intro p e s m args below meth c sl9 A Q Z hnm Mz9 hl9 hret
  have Z : zC p s m args c cX6_planned 2 RX6 wsX6_planned D T A := Z
  have hx := Z.1.1
  have hb := Z.1.2.1
  have hts := Z.1.2.2.2.2
  have hin6 : ∀ w ∈ wsX60, w ∈ wsX6_planned := fun w h => List.mem_cons_of_mem _ (List.mem_append_right _ h)
  have hH0 : s.heap = s.heap := rfl
  have L186 := hts (.fieldLink RX6 186 "AnvilHouseModel" "jobs" "I") (by decide +kernel)
  have hl9 : lv_has sl9 2 [(0, .ref o), (1, .int (nI (q)))] := hl9
  refine lv_aload_n hx hb dX6_planned_0 rfl (lv_at hl9 0 rfl) ?_
  refine lv_iload_n hx hb dX6_planned_1 rfl (lv_at hl9 1 rfl) ?_
  refine zn_if_lt (a := q) (tgt := 9) (by omega) hx hb dX6_planned_2 (by decide) (fun h => absurd h (fun h => h)) (fun _ => ?_)
  refine lv_iconst (v := 1) hx hb dX6_planned_5 (by decide) ?_
  refine lv_goto (tgt := 10) hx hb dX6_planned_6 (by decide) ?_
  refine lv_iconst (v := 1) hx hb dX6_planned_10 (by decide) ?_
  refine lv_iconst (v := 1) hx hb dX6_planned_11 (by decide) ?_
  refine z_callAi (As := [.int 1, .int 1, .int 1]) (rest := []) (rv := if gth (1) (1) (1) = 0 then 1 else 0) (wc' := mW o ad T (upS σ 31 (fun _ => 0))) Z Mz9 (cm_goes l D T o ad (σ) (1) (1) (1)) (cwV 3 hts gX6_planned_X6_goes rfl rfl rfl (by decide +kernel) ⟨by decide, by decide⟩) (va_recv Z.2.1 Mz9.1 (ci := 7) (q0 := 0) rfl rfl) rfl hl9.1 (Nat.le_of_ble_eq_true rfl) dX6_planned_12 ⟨by decide, by decide⟩ rfl (fun Hp9 lc9 Mz9 => ?_)
  refine zn_top (y := 1) (by decide) ?_
  refine lv_if_ne (tgt := 20) hx hb dX6_planned_15 (by decide) (fun _ => ?_) (fun h => absurd h (by decide))
  refine lv_iload_n hx hb dX6_planned_20 rfl (lv_at hl9 1 rfl) ?_
  refine lv_aload_n hx hb dX6_planned_21 rfl (lv_at hl9 0 rfl) ?_
  refine z_getf Z Mz9 hin6 0 rfl rfl 26 (by decide) L186 rfl (v := .int (σ 26 0)) rfl dX6_planned_22 ?_
  refine zn_top (y := nI (nj)) (h26) ?_
  refine zn_icmp_ge (a := q) (b := nj) (tgt := 36) (by omega) (by omega) hx hb dX6_planned_25 (by decide) (fun h => absurd h (by omega)) (fun _ => ?_)
  refine lv_aload_n hx hb dX6_planned_28 rfl (lv_at hl9 0 rfl) ?_
  refine lv_iload_n hx hb dX6_planned_29 rfl (lv_at hl9 1 rfl) ?_
  refine z_callAi (As := [.int (nI (q))]) (rest := []) (rv := if (if btw (σ 28 0) ((σ 27) (nj - 1)) < btw (σ 28 0) ((σ 27) 0) then (0 : Int32) else 1) = 0 then (σ 27) (nj - 1 - q) else (σ 27) q) (wc' := mW o ad T (upS σ 31 (fun _ => 0))) Z Mz9 (cm_jobAt l D T o ad (upS σ 31 (fun _ => 0)) nj (q) (by omega) (by omega) h26 (by omega)) (cwV 1 hts gX6_planned_X6_jobAt rfl rfl rfl (by decide +kernel) ⟨by decide, by decide⟩) (va_recv Z.2.1 Mz9.1 (ci := 7) (q0 := 0) rfl rfl) rfl hl9.1 (Nat.le_of_ble_eq_true rfl) dX6_planned_30 ⟨by decide, by decide⟩ rfl (fun Hp9 lc9 Mz9 => ?_)
  refine lv_goto (tgt := 37) hx hb dX6_planned_33 (by decide) ?_
  exact hret _ _ _ _ _ sl9 _ _ Mz9 (rfl) (rfl) (rfl) (Nat.le_refl _) (Nat.le_refl _) dX6_planned_37
set_option maxHeartbeats 4000000 in
set_option maxRecDepth 100000 in
theorem cm_planned_bad (l : Launch) (D : va_G) (T : Nat → ClassId) (o : Nat) (ad : Nat → Nat) (σ : Nat → Nat → Int32) (q : Int32) (hg : ¬ gth (if q < 0 then 0 else 1) (1) (1) = 0) : ZI l yX6_planned wsX6_planned (zrm 3 62) D T (mW o ad T σ) (mW o ad T (upS σ 31 (fun _ => gth (if q < 0 then 0 else 1) (1) (1)))) [.ref o, .int (q)] (0) 0 0 := by
  refine z_inI (cc := cX6_planned) (maxL := 2) (rt := .int) (by decide +kernel) rfl (Nat.le_of_ble_eq_true rfl) ?_
  intro p e s m args below meth c sl9 A Q Z hnm Mz9 hl9 hret
  have Z : zC p s m args c cX6_planned 2 RX6 wsX6_planned D T A := Z
  have hx := Z.1.1
  have hb := Z.1.2.1
  have hts := Z.1.2.2.2.2
  have hin6 : ∀ w ∈ wsX60, w ∈ wsX6_planned := fun w h => List.mem_cons_of_mem _ (List.mem_append_right _ h)
  have hH0 : s.heap = s.heap := rfl
  have L186 := hts (.fieldLink RX6 186 "AnvilHouseModel" "jobs" "I") (by decide +kernel)
  have hl9 : lv_has sl9 2 [(0, .ref o), (1, .int (q))] := hl9
  refine lv_aload_n hx hb dX6_planned_0 rfl (lv_at hl9 0 rfl) ?_
  refine lv_iload_n hx hb dX6_planned_1 rfl (lv_at hl9 1 rfl) ?_
  refine lv_if_lt (tgt := 9) hx hb dX6_planned_2 (by decide) (fun c_1 => ?_) (fun c_1 => ?_)
  ·
    refine lv_iconst (v := 0) hx hb dX6_planned_9 (by decide) ?_
    refine lv_iconst (v := 1) hx hb dX6_planned_10 (by decide) ?_
    refine lv_iconst (v := 1) hx hb dX6_planned_11 (by decide) ?_
    refine z_callAi (As := [.int 0, .int 1, .int 1]) (rest := []) (rv := if gth (0) (1) (1) = 0 then 1 else 0) (wc' := mW o ad T (upS σ 31 (fun _ => gth (0) (1) (1)))) Z Mz9 (cm_goes l D T o ad (σ) (0) (1) (1)) (cwV 3 hts gX6_planned_X6_goes rfl rfl rfl (by decide +kernel) ⟨by decide, by decide⟩) (va_recv Z.2.1 Mz9.1 (ci := 7) (q0 := 0) rfl rfl) rfl hl9.1 (Nat.le_of_ble_eq_true rfl) dX6_planned_12 ⟨by decide, by decide⟩ rfl (fun Hp9 lc9 Mz9 => ?_)
    refine zn_top (y := 0) (by have h := hg; simp only [if_pos c_1] at h; exact if_neg h) ?_
    refine lv_if_ne (tgt := 20) hx hb dX6_planned_15 (by decide) (fun h => absurd h (by decide)) (fun _ => ?_)
    refine lv_iconst (v := 0) hx hb dX6_planned_18 (by decide) ?_
    exact hret _ _ _ _ _ sl9 _ _ Mz9 (by simp only [if_pos c_1] <;> rfl) (rfl) (rfl) (Nat.le_refl _) (Nat.le_refl _) dX6_planned_19
  ·
    refine lv_iconst (v := 1) hx hb dX6_planned_5 (by decide) ?_
    refine lv_goto (tgt := 10) hx hb dX6_planned_6 (by decide) ?_
    refine lv_iconst (v := 1) hx hb dX6_planned_10 (by decide) ?_
    refine lv_iconst (v := 1) hx hb dX6_planned_11 (by decide) ?_
    refine z_callAi (As := [.int 1, .int 1, .int 1]) (rest := []) (rv := if gth (1) (1) (1) = 0 then 1 else 0) (wc' := mW o ad T (upS σ 31 (fun _ => 0))) Z Mz9 (cm_goes l D T o ad (σ) (1) (1) (1)) (cwV 3 hts gX6_planned_X6_goes rfl rfl rfl (by decide +kernel) ⟨by decide, by decide⟩) (va_recv Z.2.1 Mz9.1 (ci := 7) (q0 := 0) rfl rfl) rfl hl9.1 (Nat.le_of_ble_eq_true rfl) dX6_planned_12 ⟨by decide, by decide⟩ rfl (fun Hp9 lc9 Mz9 => ?_)
    refine zn_top (y := 0) (by have h := hg; simp only [if_neg c_1] at h; exact if_neg h) ?_
    refine lv_if_ne (tgt := 20) hx hb dX6_planned_15 (by decide) (fun h => absurd h (by decide)) (fun _ => ?_)
    refine lv_iconst (v := 0) hx hb dX6_planned_18 (by decide) ?_
    exact hret _ _ _ _ _ sl9 _ _ Mz9 (by simp only [if_neg c_1] <;> rfl) (rfl) (rfl) (Nat.le_refl _) (Nat.le_refl _) dX6_planned_19
set_option maxHeartbeats 4000000 in
set_option maxRecDepth 100000 in
theorem cm_planned_ok0 (l : Launch) (D : va_G) (T : Nat → ClassId) (o : Nat) (ad : Nat → Nat) (σ : Nat → Nat → Int32) (nj q : Nat) (hnj : nj ≤ 12) (h26 : σ 26 0 = nI nj) (hq : nj ≤ q) (hq2 : q < 2 ^ 31) : ZI l yX6_planned wsX6_planned (zrm 3 62) D T (mW o ad T σ) (mW o ad T (upS σ 31 (fun _ => 0))) [.ref o, .int (nI (q))] (-1) 0 0 := by
  refine z_inI (cc := cX6_planned) (maxL := 2) (rt := .int) (by decide +kernel) rfl (Nat.le_of_ble_eq_true rfl) ?_
  intro p e s m args below meth c sl9 A Q Z hnm Mz9 hl9 hret
  have Z : zC p s m args c cX6_planned 2 RX6 wsX6_planned D T A := Z
  have hx := Z.1.1
  have hb := Z.1.2.1
  have hts := Z.1.2.2.2.2
  have hin6 : ∀ w ∈ wsX60, w ∈ wsX6_planned := fun w h => List.mem_cons_of_mem _ (List.mem_append_right _ h)
  have hH0 : s.heap = s.heap := rfl
  have L186 := hts (.fieldLink RX6 186 "AnvilHouseModel" "jobs" "I") (by decide +kernel)
  have hl9 : lv_has sl9 2 [(0, .ref o), (1, .int (nI (q)))] := hl9
  refine lv_aload_n hx hb dX6_planned_0 rfl (lv_at hl9 0 rfl) ?_
  refine lv_iload_n hx hb dX6_planned_1 rfl (lv_at hl9 1 rfl) ?_
  refine zn_if_lt (a := q) (tgt := 9) (by omega) hx hb dX6_planned_2 (by decide) (fun h => absurd h (fun h => h)) (fun _ => ?_)
  refine lv_iconst (v := 1) hx hb dX6_planned_5 (by decide) ?_
  refine lv_goto (tgt := 10) hx hb dX6_planned_6 (by decide) ?_
  refine lv_iconst (v := 1) hx hb dX6_planned_10 (by decide) ?_
  refine lv_iconst (v := 1) hx hb dX6_planned_11 (by decide) ?_
  refine z_callAi (As := [.int 1, .int 1, .int 1]) (rest := []) (rv := if gth (1) (1) (1) = 0 then 1 else 0) (wc' := mW o ad T (upS σ 31 (fun _ => 0))) Z Mz9 (cm_goes l D T o ad (σ) (1) (1) (1)) (cwV 3 hts gX6_planned_X6_goes rfl rfl rfl (by decide +kernel) ⟨by decide, by decide⟩) (va_recv Z.2.1 Mz9.1 (ci := 7) (q0 := 0) rfl rfl) rfl hl9.1 (Nat.le_of_ble_eq_true rfl) dX6_planned_12 ⟨by decide, by decide⟩ rfl (fun Hp9 lc9 Mz9 => ?_)
  refine zn_top (y := 1) (by decide) ?_
  refine lv_if_ne (tgt := 20) hx hb dX6_planned_15 (by decide) (fun _ => ?_) (fun h => absurd h (by decide))
  refine lv_iload_n hx hb dX6_planned_20 rfl (lv_at hl9 1 rfl) ?_
  refine lv_aload_n hx hb dX6_planned_21 rfl (lv_at hl9 0 rfl) ?_
  refine z_getf Z Mz9 hin6 0 rfl rfl 26 (by decide) L186 rfl (v := .int (σ 26 0)) rfl dX6_planned_22 ?_
  refine zn_top (y := nI (nj)) (h26) ?_
  refine zn_icmp_ge (a := q) (b := nj) (tgt := 36) (by omega) (by omega) hx hb dX6_planned_25 (by decide) (fun _ => ?_) (fun h => absurd h (by omega))
  refine lv_iconst (v := (-1)) hx hb dX6_planned_36 (by decide) ?_
  exact hret _ _ _ _ _ sl9 _ _ Mz9 (rfl) (rfl) (rfl) (Nat.le_refl _) (Nat.le_refl _) dX6_planned_37
set_option maxHeartbeats 4000000 in
set_option maxRecDepth 100000 in
theorem cm_run_ok0 (l : Launch) (D : va_G) (T : Nat → ClassId) (o : Nat) (ad : Nat → Nat) (σ : Nat → Nat → Int32) (h26 : σ 26 0 = nI 0) : ZI l yX6_run wsX6_run (zrm 3 62) D T (mW o ad T σ) (mW o ad T (upS σ 31 (fun _ => 0))) [.ref o] (0) 0 0 := by
  refine z_inI (cc := cX6_run) (maxL := 2) (rt := .int) (by decide +kernel) rfl (Nat.le_of_ble_eq_true rfl) ?_
  intro p e s m args below meth c sl9 A Q Z hnm Mz9 hl9 hret
  have Z : zC p s m args c cX6_run 2 RX6 wsX6_run D T A := Z
  have hx := Z.1.1
  have hb := Z.1.2.1
  have hts := Z.1.2.2.2.2
  have hin6 : ∀ w ∈ wsX60, w ∈ wsX6_run := fun w h => List.mem_cons_of_mem _ (List.mem_append_right _ h)
  have hH0 : s.heap = s.heap := rfl
  have L90 := hts (.fieldLink RX6 90 "AnvilHouseModel" "thrown" "I") (by decide +kernel)
  have L186 := hts (.fieldLink RX6 186 "AnvilHouseModel" "jobs" "I") (by decide +kernel)
  have L86 := hts (.fieldLink RX6 86 "AnvilHouseModel" "furnace" "I") (by decide +kernel)
  have L77 := hts (.fieldLink RX6 77 "AnvilHouseModel" "job" "[I") (by decide +kernel)
  have hl9 : lv_has sl9 2 [(0, .ref o)] := hl9
  refine lv_aload_n hx hb dX6_run_0 rfl (lv_at hl9 0 rfl) ?_
  refine lv_iconst (v := 0) hx hb dX6_run_1 (by decide) ?_
  refine z_putf Z Mz9 hin6 tyX6 tyX6_ok nmX6 0 rfl rfl 31 (by decide) L90 rfl rfl (ty := .int) rfl rfl rfl (Nat.le_of_ble_eq_true rfl) (ws' := mW o ad T (upS σ 31 (fun _ => 0))) rfl dX6_run_2 (fun Hp9 lc9 Mz9 => ?_)
  refine lv_aload_n hx hb dX6_run_5 rfl (lv_at hl9 0 rfl) ?_
  refine z_getf Z Mz9 hin6 0 rfl rfl 26 (by decide) L186 rfl (v := .int (σ 26 0)) rfl dX6_run_6 ?_
  refine zn_top (y := 0) (h26) ?_
  refine lv_if_ne (tgt := 14) hx hb dX6_run_9 (by decide) (fun h => absurd h (by decide)) (fun _ => ?_)
  refine lv_iconst (v := 0) hx hb dX6_run_12 (by decide) ?_
  exact hret _ _ _ _ _ sl9 _ _ Mz9 (rfl) (rfl) (rfl) (Nat.le_refl _) (Nat.le_refl _) dX6_run_13
set_option maxHeartbeats 4000000 in
set_option maxRecDepth 100000 in
theorem cm_run_ok (l : Launch) (D : va_G) (T : Nat → ClassId) (o : Nat) (ad : Nat → Nat) (σ : Nat → Nat → Int32) (nj : Nat) (h0 : 0 < nj) (h12 : nj ≤ 12) (h26 : σ 26 0 = nI nj) : ZI l yX6_run wsX6_run (zrm 3 62) D T (mW o ad T σ) (mW o ad T (upS (upS (upS σ 26 (fun _ => 0)) 28 (fun _ => (if (if btw (σ 28 0) (σ 27 (nj - 1)) < btw (σ 28 0) (σ 27 0) then (0 : Int32) else 1) = 0 then σ 27 (nj - 1 - (nj - 1)) else σ 27 ((nj - 1))))) 31 (fun _ => 0))) [.ref o] (btw (σ 28 0) (if (if btw (σ 28 0) (σ 27 (nj - 1)) < btw (σ 28 0) (σ 27 0) then (0 : Int32) else 1) = 0 then σ 27 (nj - 1 - 0) else σ 27 (0)) + σ 27 (nj - 1) - σ 27 0) 0 0 := by
  refine z_inI (cc := cX6_run) (maxL := 2) (rt := .int) (by decide +kernel) rfl (Nat.le_of_ble_eq_true rfl) ?_
  intro p e s m args below meth c sl9 A Q Z hnm Mz9 hl9 hret
  have Z : zC p s m args c cX6_run 2 RX6 wsX6_run D T A := Z
  have hx := Z.1.1
  have hb := Z.1.2.1
  have hts := Z.1.2.2.2.2
  have hin6 : ∀ w ∈ wsX60, w ∈ wsX6_run := fun w h => List.mem_cons_of_mem _ (List.mem_append_right _ h)
  have hH0 : s.heap = s.heap := rfl
  have L90 := hts (.fieldLink RX6 90 "AnvilHouseModel" "thrown" "I") (by decide +kernel)
  have L186 := hts (.fieldLink RX6 186 "AnvilHouseModel" "jobs" "I") (by decide +kernel)
  have L86 := hts (.fieldLink RX6 86 "AnvilHouseModel" "furnace" "I") (by decide +kernel)
  have L77 := hts (.fieldLink RX6 77 "AnvilHouseModel" "job" "[I") (by decide +kernel)
  have hl9 : lv_has sl9 2 [(0, .ref o)] := hl9
  refine lv_aload_n hx hb dX6_run_0 rfl (lv_at hl9 0 rfl) ?_
  refine lv_iconst (v := 0) hx hb dX6_run_1 (by decide) ?_
  refine z_putf Z Mz9 hin6 tyX6 tyX6_ok nmX6 0 rfl rfl 31 (by decide) L90 rfl rfl (ty := .int) rfl rfl rfl (Nat.le_of_ble_eq_true rfl) (ws' := mW o ad T (upS σ 31 (fun _ => 0))) rfl dX6_run_2 (fun Hp9 lc9 Mz9 => ?_)
  refine lv_aload_n hx hb dX6_run_5 rfl (lv_at hl9 0 rfl) ?_
  refine z_getf Z Mz9 hin6 0 rfl rfl 26 (by decide) L186 rfl (v := .int (σ 26 0)) rfl dX6_run_6 ?_
  refine zn_top (y := nI (nj)) (h26) ?_
  refine zn_if_ne (a := nj) (tgt := 14) (by omega) hx hb dX6_run_9 (by decide) (fun _ => ?_) (fun h => absurd h (by omega))
  refine lv_aload_n hx hb dX6_run_14 rfl (lv_at hl9 0 rfl) ?_
  refine z_getf Z Mz9 hin6 0 rfl rfl 28 (by decide) L86 rfl (v := .int (σ 28 0)) rfl dX6_run_15 ?_
  refine lv_aload_n hx hb dX6_run_18 rfl (lv_at hl9 0 rfl) ?_
  refine lv_iconst (v := 0) hx hb dX6_run_19 (by decide) ?_
  refine z_callAi (As := [.int 0]) (rest := [.int (σ 28 0)]) (rv := if (if btw (σ 28 0) ((σ 27) (nj - 1)) < btw (σ 28 0) ((σ 27) 0) then (0 : Int32) else 1) = 0 then (σ 27) (nj - 1 - 0) else (σ 27) 0) (wc' := mW o ad T (upS σ 31 (fun _ => 0))) Z Mz9 (cm_jobAt l D T o ad (upS σ 31 (fun _ => 0)) nj (0) (by omega) (by omega) h26 (by omega)) (cwV 1 hts gX6_run_X6_jobAt rfl rfl rfl (by decide +kernel) ⟨by decide, by decide⟩) (va_recv Z.2.1 Mz9.1 (ci := 7) (q0 := 0) rfl rfl) rfl hl9.1 (Nat.le_of_ble_eq_true rfl) dX6_run_20 ⟨by decide, by decide⟩ rfl (fun Hp9 lc9 Mz9 => ?_)
  refine z_callSi (As := [.int (σ 28 0), .int (if (if btw (σ 28 0) ((σ 27) (nj - 1)) < btw (σ 28 0) ((σ 27) 0) then (0 : Int32) else 1) = 0 then (σ 27) (nj - 1 - 0) else (σ 27) 0)]) (rest := []) Z.1 (cm_between l (σ 28 0) (if (if btw (σ 28 0) ((σ 27) (nj - 1)) < btw (σ 28 0) ((σ 27) 0) then (0 : Int32) else 1) = 0 then (σ 27) (nj - 1 - 0) else (σ 27) 0)) (va_cwS 2 hts gX6_run_X6_between rfl rfl rfl (by decide +kernel) ⟨by decide, by decide⟩) rfl hl9.1 (Nat.le_of_ble_eq_true rfl) dX6_run_23 ⟨by decide, by decide⟩ rfl ?_
  refine lv_aload_n hx hb dX6_run_26 rfl (lv_at hl9 0 rfl) ?_
  refine z_getf Z Mz9 hin6 0 rfl rfl 27 (by decide) L77 rfl (v := .ref (ad 27)) rfl dX6_run_27 ?_
  refine lv_aload_n hx hb dX6_run_30 rfl (lv_at hl9 0 rfl) ?_
  refine z_getf Z Mz9 hin6 0 rfl rfl 26 (by decide) L186 rfl (v := .int (σ 26 0)) rfl dX6_run_31 ?_
  refine zn_top (y := nI (nj)) (h26) ?_
  refine lv_iconst (v := 1) hx hb dX6_run_34 (by decide) ?_
  refine zn_isub (a := nj) (b := 1) (by omega) hx hb dX6_run_35 ?_
  refine z_iald Z Mz9 23 (h0 := ad 27) (n := 12) (f := σ 27) rfl (j := nj - 1) (by omega) (by decide) dX6_run_36 ?_
  refine lv_iadd hx hb dX6_run_37 ?_
  refine lv_aload_n hx hb dX6_run_38 rfl (lv_at hl9 0 rfl) ?_
  refine z_getf Z Mz9 hin6 0 rfl rfl 27 (by decide) L77 rfl (v := .ref (ad 27)) rfl dX6_run_39 ?_
  refine lv_iconst (v := 0) hx hb dX6_run_42 (by decide) ?_
  refine z_iald Z Mz9 23 (h0 := ad 27) (n := 12) (f := σ 27) rfl (j := 0) (by omega) (by decide) dX6_run_43 ?_
  refine lv_isub hx hb dX6_run_44 ?_
  refine lv_istore_n (lv' := [(1, .int (((btw (σ 28 0) (if (if btw (σ 28 0) ((σ 27) (nj - 1)) < btw (σ 28 0) ((σ 27) 0) then (0 : Int32) else 1) = 0 then (σ 27) (nj - 1 - 0) else (σ 27) 0)) + ((σ 27) (nj - 1))) - ((σ 27) 0))), (0, .ref o)]) hx hb dX6_run_45 rfl hl9 (by decide) rfl (fun sl9 hl9 => ?_)
  refine lv_aload_n hx hb dX6_run_46 rfl (lv_at hl9 1 rfl) ?_
  refine lv_aload_n hx hb dX6_run_47 rfl (lv_at hl9 1 rfl) ?_
  refine lv_aload_n hx hb dX6_run_48 rfl (lv_at hl9 1 rfl) ?_
  refine z_getf Z Mz9 hin6 0 rfl rfl 26 (by decide) L186 rfl (v := .int (σ 26 0)) rfl dX6_run_49 ?_
  refine zn_top (y := nI (nj)) (h26) ?_
  refine lv_iconst (v := 1) hx hb dX6_run_52 (by decide) ?_
  refine zn_isub (a := nj) (b := 1) (by omega) hx hb dX6_run_53 ?_
  refine z_callAi (As := [.int (nI (nj - 1))]) (rest := [.ref o]) (rv := if (if btw (σ 28 0) ((σ 27) (nj - 1)) < btw (σ 28 0) ((σ 27) 0) then (0 : Int32) else 1) = 0 then (σ 27) (nj - 1 - (nj - 1)) else (σ 27) (nj - 1)) (wc' := mW o ad T (upS σ 31 (fun _ => 0))) Z Mz9 (cm_jobAt l D T o ad (upS σ 31 (fun _ => 0)) nj (nj - 1) (by omega) (by omega) h26 (by omega)) (cwV 1 hts gX6_run_X6_jobAt rfl rfl rfl (by decide +kernel) ⟨by decide, by decide⟩) (va_recv Z.2.1 Mz9.1 (ci := 7) (q0 := 0) rfl rfl) rfl hl9.1 (Nat.le_of_ble_eq_true rfl) dX6_run_54 ⟨by decide, by decide⟩ rfl (fun Hp9 lc9 Mz9 => ?_)
  refine z_putf Z Mz9 hin6 tyX6 tyX6_ok nmX6 0 rfl rfl 28 (by decide) L86 rfl rfl (ty := .int) rfl rfl rfl (Nat.le_of_ble_eq_true rfl) (ws' := mW o ad T (upS (upS σ 28 (fun _ => if (if btw (σ 28 0) ((σ 27) (nj - 1)) < btw (σ 28 0) ((σ 27) 0) then (0 : Int32) else 1) = 0 then (σ 27) (nj - 1 - (nj - 1)) else (σ 27) (nj - 1))) 31 (fun _ => 0))) rfl dX6_run_57 (fun Hp9 lc9 Mz9 => ?_)
  refine lv_aload_n hx hb dX6_run_60 rfl (lv_at hl9 1 rfl) ?_
  refine lv_iconst (v := 0) hx hb dX6_run_61 (by decide) ?_
  refine z_putf Z Mz9 hin6 tyX6 tyX6_ok nmX6 0 rfl rfl 26 (by decide) L186 rfl rfl (ty := .int) rfl rfl rfl (Nat.le_of_ble_eq_true rfl) (ws' := mW o ad T (upS (upS (upS σ 26 (fun _ => 0)) 28 (fun _ => if (if btw (σ 28 0) ((σ 27) (nj - 1)) < btw (σ 28 0) ((σ 27) 0) then (0 : Int32) else 1) = 0 then (σ 27) (nj - 1 - (nj - 1)) else (σ 27) (nj - 1))) 31 (fun _ => 0))) rfl dX6_run_62 (fun Hp9 lc9 Mz9 => ?_)
  refine lv_iload_n hx hb dX6_run_65 rfl (lv_at hl9 0 rfl) ?_
  exact hret _ _ _ _ _ sl9 _ _ Mz9 (rfl) (rfl) (rfl) (Nat.le_refl _) (Nat.le_refl _) dX6_run_66
set_option maxHeartbeats 4000000 in
set_option maxRecDepth 100000 in
theorem cm_heat_b1 (l : Launch) (D : va_G) (T : Nat → ClassId) (o : Nat) (ad : Nat → Nat) (σ : Nat → Nat → Int32) (b f mi : Int32) (hB : bin (b) 0 (σ 5 0 - 1) = 0) : ZI l yX6_heat wsX6_heat (zrm 2 43) D T (mW o ad T σ) (mW o ad T (upS σ 31 (fun _ => 1))) [.ref o, .int (b), .int (f), .int (mi)] (0) 0 0 := by
  refine z_inI (cc := cX6_heat) (maxL := 6) (rt := .int) (by decide +kernel) rfl (Nat.le_of_ble_eq_true rfl) ?_
  intro p e s m args below meth c sl9 A Q Z hnm Mz9 hl9 hret
  have Z : zC p s m args c cX6_heat 6 RX6 wsX6_heat D T A := Z
  have hx := Z.1.1
  have hb := Z.1.2.1
  have hts := Z.1.2.2.2.2
  have hin6 : ∀ w ∈ wsX60, w ∈ wsX6_heat := fun w h => List.mem_cons_of_mem _ (List.mem_append_right _ h)
  have hH0 : s.heap = s.heap := rfl
  have L40 := hts (.fieldLink RX6 40 "AnvilHouseModel" "heats" "[I") (by decide +kernel)
  have L7 := hts (.fieldLink RX6 7 "AnvilHouseModel" "mayHeat" "[I") (by decide +kernel)
  have L31 := hts (.fieldLink RX6 31 "AnvilHouseModel" "skin" "[I") (by decide +kernel)
  have L37 := hts (.fieldLink RX6 37 "AnvilHouseModel" "grain" "[I") (by decide +kernel)
  have L34 := hts (.fieldLink RX6 34 "AnvilHouseModel" "core" "[I") (by decide +kernel)
  have hl9 : lv_has sl9 6 [(0, .ref o), (1, .int (b)), (2, .int (f)), (3, .int (mi))] := hl9
  refine lv_aload_n hx hb dX6_heat_0 rfl (lv_at hl9 0 rfl) ?_
  refine lv_iload_n hx hb dX6_heat_1 rfl (lv_at hl9 1 rfl) ?_
  refine z_callAi (As := [.int (b)]) (rest := []) (rv := bin (b) 0 (σ 5 0 - 1)) (wc' := mW o ad T σ) Z Mz9 (cm_isBillet l D T o ad (σ) (b)) (cwV 1 hts gX6_heat_X6_isBillet rfl rfl rfl (by decide +kernel) ⟨by decide, by decide⟩) (va_recv Z.2.1 Mz9.1 (ci := 7) (q0 := 0) rfl rfl) rfl hl9.1 (Nat.le_of_ble_eq_true rfl) dX6_heat_2 ⟨by decide, by decide⟩ rfl (fun Hp9 lc9 Mz9 => ?_)
  refine zn_top (y := 0) (hB) ?_
  refine lv_istore (lv' := [(4, .int 0), (0, .ref o), (1, .int (b)), (2, .int (f)), (3, .int (mi))]) hx hb dX6_heat_5 hl9 (by decide) rfl (fun sl9 hl9 => ?_)
  refine lv_aload_n hx hb dX6_heat_7 rfl (lv_at hl9 1 rfl) ?_
  refine lv_iload hx hb dX6_heat_8 (lv_at hl9 0 rfl) ?_
  refine lv_iload_n hx hb dX6_heat_10 rfl (lv_at hl9 3 rfl) ?_
  refine lv_sipush (v := 200) hx hb dX6_heat_11 (by decide) ?_
  refine lv_sipush (v := 1300) hx hb dX6_heat_14 (by decide) ?_
  refine z_callSi (As := [.int (f), .int 200, .int 1300]) (rest := [.int 0, .ref o]) Z.1 (cm_in l (f) (200) (1300)) (va_cwS 3 hts gX6_heat_X6_in rfl rfl rfl (by decide +kernel) ⟨by decide, by decide⟩) rfl hl9.1 (Nat.le_of_ble_eq_true rfl) dX6_heat_17 ⟨by decide, by decide⟩ rfl ?_
  refine lv_if_eq (tgt := 38) hx hb dX6_heat_20 (by decide) (fun c_1 => ?_) (fun c_1 => ?_)
  ·
    refine lv_iconst (v := 0) hx hb dX6_heat_38 (by decide) ?_
    refine lv_iload hx hb dX6_heat_39 (lv_at hl9 0 rfl) ?_
    refine lv_if_eq (tgt := 85) hx hb dX6_heat_41 (by decide) (fun _ => ?_) (fun h => absurd h (by decide))
    refine lv_iconst (v := 0) hx hb dX6_heat_85 (by decide) ?_
    refine z_callAi (As := [.int 0, .int 0, .int 0]) (rest := []) (rv := if gth (0) (0) (0) = 0 then 1 else 0) (wc' := mW o ad T (upS σ 31 (fun _ => gth (0) (0) (0)))) Z Mz9 (cm_goes l D T o ad (σ) (0) (0) (0)) (cwV 3 hts gX6_heat_X6_goes rfl rfl rfl (by decide +kernel) ⟨by decide, by decide⟩) (va_recv Z.2.1 Mz9.1 (ci := 7) (q0 := 0) rfl rfl) rfl hl9.1 (Nat.le_of_ble_eq_true rfl) dX6_heat_86 ⟨by decide, by decide⟩ rfl (fun Hp9 lc9 Mz9 => ?_)
    refine zn_top (y := 0) (by rw [gth_1]; rfl) ?_
    refine lv_if_ne (tgt := 94) hx hb dX6_heat_89 (by decide) (fun h => absurd h (by decide)) (fun _ => ?_)
    refine lv_iconst (v := 0) hx hb dX6_heat_92 (by decide) ?_
    exact hret _ _ _ _ _ sl9 _ _ Mz9 (by rw [gth_1]) (rfl) (rfl) (Nat.le_refl _) (Nat.le_refl _) dX6_heat_93
  ·
    refine lv_iload_n hx hb dX6_heat_23 rfl (lv_at hl9 4 rfl) ?_
    refine lv_iconst (v := 1) hx hb dX6_heat_24 (by decide) ?_
    refine lv_sipush (v := 200) hx hb dX6_heat_25 (by decide) ?_
    refine z_callSi (As := [.int (mi), .int 1, .int 200]) (rest := [.int 0, .ref o]) Z.1 (cm_in l (mi) (1) (200)) (va_cwS 3 hts gX6_heat_X6_in rfl rfl rfl (by decide +kernel) ⟨by decide, by decide⟩) rfl hl9.1 (Nat.le_of_ble_eq_true rfl) dX6_heat_28 ⟨by decide, by decide⟩ rfl ?_
    refine lv_if_eq (tgt := 38) hx hb dX6_heat_31 (by decide) (fun c_2 => ?_) (fun c_2 => ?_)
    ·
      refine lv_iconst (v := 0) hx hb dX6_heat_38 (by decide) ?_
      refine lv_iload hx hb dX6_heat_39 (lv_at hl9 0 rfl) ?_
      refine lv_if_eq (tgt := 85) hx hb dX6_heat_41 (by decide) (fun _ => ?_) (fun h => absurd h (by decide))
      refine lv_iconst (v := 0) hx hb dX6_heat_85 (by decide) ?_
      refine z_callAi (As := [.int 0, .int 0, .int 0]) (rest := []) (rv := if gth (0) (0) (0) = 0 then 1 else 0) (wc' := mW o ad T (upS σ 31 (fun _ => gth (0) (0) (0)))) Z Mz9 (cm_goes l D T o ad (σ) (0) (0) (0)) (cwV 3 hts gX6_heat_X6_goes rfl rfl rfl (by decide +kernel) ⟨by decide, by decide⟩) (va_recv Z.2.1 Mz9.1 (ci := 7) (q0 := 0) rfl rfl) rfl hl9.1 (Nat.le_of_ble_eq_true rfl) dX6_heat_86 ⟨by decide, by decide⟩ rfl (fun Hp9 lc9 Mz9 => ?_)
      refine zn_top (y := 0) (by rw [gth_1]; rfl) ?_
      refine lv_if_ne (tgt := 94) hx hb dX6_heat_89 (by decide) (fun h => absurd h (by decide)) (fun _ => ?_)
      refine lv_iconst (v := 0) hx hb dX6_heat_92 (by decide) ?_
      exact hret _ _ _ _ _ sl9 _ _ Mz9 (by rw [gth_1]) (rfl) (rfl) (Nat.le_refl _) (Nat.le_refl _) dX6_heat_93
    ·
      refine lv_iconst (v := 1) hx hb dX6_heat_34 (by decide) ?_
      refine lv_goto (tgt := 39) hx hb dX6_heat_35 (by decide) ?_
      refine lv_iload hx hb dX6_heat_39 (lv_at hl9 0 rfl) ?_
      refine lv_if_eq (tgt := 85) hx hb dX6_heat_41 (by decide) (fun _ => ?_) (fun h => absurd h (by decide))
      refine lv_iconst (v := 0) hx hb dX6_heat_85 (by decide) ?_
      refine z_callAi (As := [.int 0, .int 1, .int 0]) (rest := []) (rv := if gth (0) (1) (0) = 0 then 1 else 0) (wc' := mW o ad T (upS σ 31 (fun _ => gth (0) (1) (0)))) Z Mz9 (cm_goes l D T o ad (σ) (0) (1) (0)) (cwV 3 hts gX6_heat_X6_goes rfl rfl rfl (by decide +kernel) ⟨by decide, by decide⟩) (va_recv Z.2.1 Mz9.1 (ci := 7) (q0 := 0) rfl rfl) rfl hl9.1 (Nat.le_of_ble_eq_true rfl) dX6_heat_86 ⟨by decide, by decide⟩ rfl (fun Hp9 lc9 Mz9 => ?_)
      refine zn_top (y := 0) (by rw [gth_1]; rfl) ?_
      refine lv_if_ne (tgt := 94) hx hb dX6_heat_89 (by decide) (fun h => absurd h (by decide)) (fun _ => ?_)
      refine lv_iconst (v := 0) hx hb dX6_heat_92 (by decide) ?_
      exact hret _ _ _ _ _ sl9 _ _ Mz9 (by rw [gth_1]) (rfl) (rfl) (Nat.le_refl _) (Nat.le_refl _) dX6_heat_93
set_option maxHeartbeats 4000000 in
set_option maxRecDepth 100000 in
theorem cm_heat_b2 (l : Launch) (D : va_G) (T : Nat → ClassId) (o : Nat) (ad : Nat → Nat) (σ : Nat → Nat → Int32) (i mo st9 : Nat) (f mi : Int32) (hi : i < 12) (h1 : bin (nI i) 0 (σ 5 0 - 1) = 1) (hm : σ 6 i = nI mo) (hmo : mo < 20) (hs : σ 4 mo = nI st9) (hst : st9 < 4) (hg : ¬ gth (1) (if bin (f) (200) (1300) = 0 then 0 else if bin (mi) (1) (200) = 0 then 0 else 1) (if σ 12 i < σ 0 st9 then 1 else 0) = 0) : ZI l yX6_heat wsX6_heat (zrm 2 43) D T (mW o ad T σ) (mW o ad T (upS σ 31 (fun _ => gth (1) (if bin (f) (200) (1300) = 0 then 0 else if bin (mi) (1) (200) = 0 then 0 else 1) (if σ 12 i < σ 0 st9 then 1 else 0)))) [.ref o, .int (nI (i)), .int (f), .int (mi)] (0) 0 0 := by
  refine z_inI (cc := cX6_heat) (maxL := 6) (rt := .int) (by decide +kernel) rfl (Nat.le_of_ble_eq_true rfl) ?_
  intro p e s m args below meth c sl9 A Q Z hnm Mz9 hl9 hret
  have Z : zC p s m args c cX6_heat 6 RX6 wsX6_heat D T A := Z
  have hx := Z.1.1
  have hb := Z.1.2.1
  have hts := Z.1.2.2.2.2
  have hin6 : ∀ w ∈ wsX60, w ∈ wsX6_heat := fun w h => List.mem_cons_of_mem _ (List.mem_append_right _ h)
  have hH0 : s.heap = s.heap := rfl
  have L40 := hts (.fieldLink RX6 40 "AnvilHouseModel" "heats" "[I") (by decide +kernel)
  have L7 := hts (.fieldLink RX6 7 "AnvilHouseModel" "mayHeat" "[I") (by decide +kernel)
  have L31 := hts (.fieldLink RX6 31 "AnvilHouseModel" "skin" "[I") (by decide +kernel)
  have L37 := hts (.fieldLink RX6 37 "AnvilHouseModel" "grain" "[I") (by decide +kernel)
  have L34 := hts (.fieldLink RX6 34 "AnvilHouseModel" "core" "[I") (by decide +kernel)
  have hl9 : lv_has sl9 6 [(0, .ref o), (1, .int (nI (i))), (2, .int (f)), (3, .int (mi))] := hl9
  refine lv_aload_n hx hb dX6_heat_0 rfl (lv_at hl9 0 rfl) ?_
  refine lv_iload_n hx hb dX6_heat_1 rfl (lv_at hl9 1 rfl) ?_
  refine z_callAi (As := [.int (nI (i))]) (rest := []) (rv := bin (nI (i)) 0 (σ 5 0 - 1)) (wc' := mW o ad T σ) Z Mz9 (cm_isBillet l D T o ad (σ) (nI (i))) (cwV 1 hts gX6_heat_X6_isBillet rfl rfl rfl (by decide +kernel) ⟨by decide, by decide⟩) (va_recv Z.2.1 Mz9.1 (ci := 7) (q0 := 0) rfl rfl) rfl hl9.1 (Nat.le_of_ble_eq_true rfl) dX6_heat_2 ⟨by decide, by decide⟩ rfl (fun Hp9 lc9 Mz9 => ?_)
  refine zn_top (y := 1) (h1) ?_
  refine lv_istore (lv' := [(4, .int 1), (0, .ref o), (1, .int (nI (i))), (2, .int (f)), (3, .int (mi))]) hx hb dX6_heat_5 hl9 (by decide) rfl (fun sl9 hl9 => ?_)
  refine lv_aload_n hx hb dX6_heat_7 rfl (lv_at hl9 1 rfl) ?_
  refine lv_iload hx hb dX6_heat_8 (lv_at hl9 0 rfl) ?_
  refine lv_iload_n hx hb dX6_heat_10 rfl (lv_at hl9 3 rfl) ?_
  refine lv_sipush (v := 200) hx hb dX6_heat_11 (by decide) ?_
  refine lv_sipush (v := 1300) hx hb dX6_heat_14 (by decide) ?_
  refine z_callSi (As := [.int (f), .int 200, .int 1300]) (rest := [.int 1, .ref o]) Z.1 (cm_in l (f) (200) (1300)) (va_cwS 3 hts gX6_heat_X6_in rfl rfl rfl (by decide +kernel) ⟨by decide, by decide⟩) rfl hl9.1 (Nat.le_of_ble_eq_true rfl) dX6_heat_17 ⟨by decide, by decide⟩ rfl ?_
  refine lv_if_eq (tgt := 38) hx hb dX6_heat_20 (by decide) (fun c_1 => ?_) (fun c_1 => ?_)
  ·
    refine lv_iconst (v := 0) hx hb dX6_heat_38 (by decide) ?_
    refine lv_iload hx hb dX6_heat_39 (lv_at hl9 0 rfl) ?_
    refine lv_if_eq (tgt := 85) hx hb dX6_heat_41 (by decide) (fun h => absurd h (by decide)) (fun _ => ?_)
    refine lv_aload_n hx hb dX6_heat_44 rfl (lv_at hl9 1 rfl) ?_
    refine z_getf Z Mz9 hin6 0 rfl rfl 12 (by decide) L40 rfl (v := .ref (ad 12)) rfl dX6_heat_45 ?_
    refine lv_iload hx hb dX6_heat_48 (lv_at hl9 0 rfl) ?_
    refine lv_if_eq (tgt := 57) hx hb dX6_heat_50 (by decide) (fun h => absurd h (by decide)) (fun _ => ?_)
    refine lv_iload_n hx hb dX6_heat_53 rfl (lv_at hl9 2 rfl) ?_
    refine lv_goto (tgt := 58) hx hb dX6_heat_54 (by decide) ?_
    refine z_iald Z Mz9 11 (h0 := ad 12) (n := 12) (f := σ 12) rfl (j := i) (by omega) (by decide) dX6_heat_58 ?_
    refine lv_aload_n hx hb dX6_heat_59 rfl (lv_at hl9 1 rfl) ?_
    refine z_getf Z Mz9 hin6 0 rfl rfl 0 (by decide) L7 rfl (v := .ref (ad 0)) rfl dX6_heat_60 ?_
    refine lv_iload hx hb dX6_heat_63 (lv_at hl9 0 rfl) ?_
    refine lv_if_eq (tgt := 76) hx hb dX6_heat_65 (by decide) (fun h => absurd h (by decide)) (fun _ => ?_)
    refine lv_aload_n hx hb dX6_heat_68 rfl (lv_at hl9 1 rfl) ?_
    refine lv_iload_n hx hb dX6_heat_69 rfl (lv_at hl9 2 rfl) ?_
    refine z_callAi (As := [.int (nI (i))]) (rest := [.ref (ad 0), .int ((σ 12) i), .int 0, .int 1, .ref o]) (rv := (σ 4) mo) (wc' := mW o ad T σ) Z Mz9 (cm_steelIs l D T o ad (σ) (i) mo (by omega) hm (by omega)) (cwV 1 hts gX6_heat_X6_steelIs rfl rfl rfl (by decide +kernel) ⟨by decide, by decide⟩) (va_recv Z.2.1 Mz9.1 (ci := 7) (q0 := 0) rfl rfl) rfl hl9.1 (Nat.le_of_ble_eq_true rfl) dX6_heat_70 ⟨by decide, by decide⟩ rfl (fun Hp9 lc9 Mz9 => ?_)
    refine zn_top (y := nI (st9)) (hs) ?_
    refine lv_goto (tgt := 77) hx hb dX6_heat_73 (by decide) ?_
    refine z_iald Z Mz9 1 (h0 := ad 0) (n := 4) (f := σ 0) rfl (j := st9) (by omega) (by decide) dX6_heat_77 ?_
    refine lv_icmp_ge (tgt := 85) hx hb dX6_heat_78 (by decide) (fun c_2 => ?_) (fun c_2 => ?_)
    ·
      refine lv_iconst (v := 0) hx hb dX6_heat_85 (by decide) ?_
      refine z_callAi (As := [.int 1, .int 0, .int 0]) (rest := []) (rv := if gth (1) (0) (0) = 0 then 1 else 0) (wc' := mW o ad T (upS σ 31 (fun _ => gth (1) (0) (0)))) Z Mz9 (cm_goes l D T o ad (σ) (1) (0) (0)) (cwV 3 hts gX6_heat_X6_goes rfl rfl rfl (by decide +kernel) ⟨by decide, by decide⟩) (va_recv Z.2.1 Mz9.1 (ci := 7) (q0 := 0) rfl rfl) rfl hl9.1 (Nat.le_of_ble_eq_true rfl) dX6_heat_86 ⟨by decide, by decide⟩ rfl (fun Hp9 lc9 Mz9 => ?_)
      refine zn_top (y := 0) (by have h := hg; simp only [if_pos c_1, if_neg (Int32.not_lt.mpr c_2)] at h; exact if_neg h) ?_
      refine lv_if_ne (tgt := 94) hx hb dX6_heat_89 (by decide) (fun h => absurd h (by decide)) (fun _ => ?_)
      refine lv_iconst (v := 0) hx hb dX6_heat_92 (by decide) ?_
      exact hret _ _ _ _ _ sl9 _ _ Mz9 (by simp only [if_pos c_1, if_neg (Int32.not_lt.mpr c_2)] <;> rfl) (rfl) (rfl) (Nat.le_refl _) (Nat.le_refl _) dX6_heat_93
    ·
      refine lv_iconst (v := 1) hx hb dX6_heat_81 (by decide) ?_
      refine lv_goto (tgt := 86) hx hb dX6_heat_82 (by decide) ?_
      refine z_callAi (As := [.int 1, .int 0, .int 1]) (rest := []) (rv := if gth (1) (0) (1) = 0 then 1 else 0) (wc' := mW o ad T (upS σ 31 (fun _ => gth (1) (0) (1)))) Z Mz9 (cm_goes l D T o ad (σ) (1) (0) (1)) (cwV 3 hts gX6_heat_X6_goes rfl rfl rfl (by decide +kernel) ⟨by decide, by decide⟩) (va_recv Z.2.1 Mz9.1 (ci := 7) (q0 := 0) rfl rfl) rfl hl9.1 (Nat.le_of_ble_eq_true rfl) dX6_heat_86 ⟨by decide, by decide⟩ rfl (fun Hp9 lc9 Mz9 => ?_)
      refine zn_top (y := 0) (by have h := hg; simp only [if_pos c_1, if_pos (Int32.not_le.mp c_2)] at h; exact if_neg h) ?_
      refine lv_if_ne (tgt := 94) hx hb dX6_heat_89 (by decide) (fun h => absurd h (by decide)) (fun _ => ?_)
      refine lv_iconst (v := 0) hx hb dX6_heat_92 (by decide) ?_
      exact hret _ _ _ _ _ sl9 _ _ Mz9 (by simp only [if_pos c_1, if_pos (Int32.not_le.mp c_2)] <;> rfl) (rfl) (rfl) (Nat.le_refl _) (Nat.le_refl _) dX6_heat_93
  ·
    refine lv_iload_n hx hb dX6_heat_23 rfl (lv_at hl9 4 rfl) ?_
    refine lv_iconst (v := 1) hx hb dX6_heat_24 (by decide) ?_
    refine lv_sipush (v := 200) hx hb dX6_heat_25 (by decide) ?_
    refine z_callSi (As := [.int (mi), .int 1, .int 200]) (rest := [.int 1, .ref o]) Z.1 (cm_in l (mi) (1) (200)) (va_cwS 3 hts gX6_heat_X6_in rfl rfl rfl (by decide +kernel) ⟨by decide, by decide⟩) rfl hl9.1 (Nat.le_of_ble_eq_true rfl) dX6_heat_28 ⟨by decide, by decide⟩ rfl ?_
    refine lv_if_eq (tgt := 38) hx hb dX6_heat_31 (by decide) (fun c_3 => ?_) (fun c_3 => ?_)
    ·
      refine lv_iconst (v := 0) hx hb dX6_heat_38 (by decide) ?_
      refine lv_iload hx hb dX6_heat_39 (lv_at hl9 0 rfl) ?_
      refine lv_if_eq (tgt := 85) hx hb dX6_heat_41 (by decide) (fun h => absurd h (by decide)) (fun _ => ?_)
      refine lv_aload_n hx hb dX6_heat_44 rfl (lv_at hl9 1 rfl) ?_
      refine z_getf Z Mz9 hin6 0 rfl rfl 12 (by decide) L40 rfl (v := .ref (ad 12)) rfl dX6_heat_45 ?_
      refine lv_iload hx hb dX6_heat_48 (lv_at hl9 0 rfl) ?_
      refine lv_if_eq (tgt := 57) hx hb dX6_heat_50 (by decide) (fun h => absurd h (by decide)) (fun _ => ?_)
      refine lv_iload_n hx hb dX6_heat_53 rfl (lv_at hl9 2 rfl) ?_
      refine lv_goto (tgt := 58) hx hb dX6_heat_54 (by decide) ?_
      refine z_iald Z Mz9 11 (h0 := ad 12) (n := 12) (f := σ 12) rfl (j := i) (by omega) (by decide) dX6_heat_58 ?_
      refine lv_aload_n hx hb dX6_heat_59 rfl (lv_at hl9 1 rfl) ?_
      refine z_getf Z Mz9 hin6 0 rfl rfl 0 (by decide) L7 rfl (v := .ref (ad 0)) rfl dX6_heat_60 ?_
      refine lv_iload hx hb dX6_heat_63 (lv_at hl9 0 rfl) ?_
      refine lv_if_eq (tgt := 76) hx hb dX6_heat_65 (by decide) (fun h => absurd h (by decide)) (fun _ => ?_)
      refine lv_aload_n hx hb dX6_heat_68 rfl (lv_at hl9 1 rfl) ?_
      refine lv_iload_n hx hb dX6_heat_69 rfl (lv_at hl9 2 rfl) ?_
      refine z_callAi (As := [.int (nI (i))]) (rest := [.ref (ad 0), .int ((σ 12) i), .int 0, .int 1, .ref o]) (rv := (σ 4) mo) (wc' := mW o ad T σ) Z Mz9 (cm_steelIs l D T o ad (σ) (i) mo (by omega) hm (by omega)) (cwV 1 hts gX6_heat_X6_steelIs rfl rfl rfl (by decide +kernel) ⟨by decide, by decide⟩) (va_recv Z.2.1 Mz9.1 (ci := 7) (q0 := 0) rfl rfl) rfl hl9.1 (Nat.le_of_ble_eq_true rfl) dX6_heat_70 ⟨by decide, by decide⟩ rfl (fun Hp9 lc9 Mz9 => ?_)
      refine zn_top (y := nI (st9)) (hs) ?_
      refine lv_goto (tgt := 77) hx hb dX6_heat_73 (by decide) ?_
      refine z_iald Z Mz9 1 (h0 := ad 0) (n := 4) (f := σ 0) rfl (j := st9) (by omega) (by decide) dX6_heat_77 ?_
      refine lv_icmp_ge (tgt := 85) hx hb dX6_heat_78 (by decide) (fun c_4 => ?_) (fun c_4 => ?_)
      ·
        refine lv_iconst (v := 0) hx hb dX6_heat_85 (by decide) ?_
        refine z_callAi (As := [.int 1, .int 0, .int 0]) (rest := []) (rv := if gth (1) (0) (0) = 0 then 1 else 0) (wc' := mW o ad T (upS σ 31 (fun _ => gth (1) (0) (0)))) Z Mz9 (cm_goes l D T o ad (σ) (1) (0) (0)) (cwV 3 hts gX6_heat_X6_goes rfl rfl rfl (by decide +kernel) ⟨by decide, by decide⟩) (va_recv Z.2.1 Mz9.1 (ci := 7) (q0 := 0) rfl rfl) rfl hl9.1 (Nat.le_of_ble_eq_true rfl) dX6_heat_86 ⟨by decide, by decide⟩ rfl (fun Hp9 lc9 Mz9 => ?_)
        refine zn_top (y := 0) (by have h := hg; simp only [if_neg c_1, if_pos c_3, if_neg (Int32.not_lt.mpr c_4)] at h; exact if_neg h) ?_
        refine lv_if_ne (tgt := 94) hx hb dX6_heat_89 (by decide) (fun h => absurd h (by decide)) (fun _ => ?_)
        refine lv_iconst (v := 0) hx hb dX6_heat_92 (by decide) ?_
        exact hret _ _ _ _ _ sl9 _ _ Mz9 (by simp only [if_neg c_1, if_pos c_3, if_neg (Int32.not_lt.mpr c_4)] <;> rfl) (rfl) (rfl) (Nat.le_refl _) (Nat.le_refl _) dX6_heat_93
      ·
        refine lv_iconst (v := 1) hx hb dX6_heat_81 (by decide) ?_
        refine lv_goto (tgt := 86) hx hb dX6_heat_82 (by decide) ?_
        refine z_callAi (As := [.int 1, .int 0, .int 1]) (rest := []) (rv := if gth (1) (0) (1) = 0 then 1 else 0) (wc' := mW o ad T (upS σ 31 (fun _ => gth (1) (0) (1)))) Z Mz9 (cm_goes l D T o ad (σ) (1) (0) (1)) (cwV 3 hts gX6_heat_X6_goes rfl rfl rfl (by decide +kernel) ⟨by decide, by decide⟩) (va_recv Z.2.1 Mz9.1 (ci := 7) (q0 := 0) rfl rfl) rfl hl9.1 (Nat.le_of_ble_eq_true rfl) dX6_heat_86 ⟨by decide, by decide⟩ rfl (fun Hp9 lc9 Mz9 => ?_)
        refine zn_top (y := 0) (by have h := hg; simp only [if_neg c_1, if_pos c_3, if_pos (Int32.not_le.mp c_4)] at h; exact if_neg h) ?_
        refine lv_if_ne (tgt := 94) hx hb dX6_heat_89 (by decide) (fun h => absurd h (by decide)) (fun _ => ?_)
        refine lv_iconst (v := 0) hx hb dX6_heat_92 (by decide) ?_
        exact hret _ _ _ _ _ sl9 _ _ Mz9 (by simp only [if_neg c_1, if_pos c_3, if_pos (Int32.not_le.mp c_4)] <;> rfl) (rfl) (rfl) (Nat.le_refl _) (Nat.le_refl _) dX6_heat_93
    ·
      refine lv_iconst (v := 1) hx hb dX6_heat_34 (by decide) ?_
      refine lv_goto (tgt := 39) hx hb dX6_heat_35 (by decide) ?_
      refine lv_iload hx hb dX6_heat_39 (lv_at hl9 0 rfl) ?_
      refine lv_if_eq (tgt := 85) hx hb dX6_heat_41 (by decide) (fun h => absurd h (by decide)) (fun _ => ?_)
      refine lv_aload_n hx hb dX6_heat_44 rfl (lv_at hl9 1 rfl) ?_
      refine z_getf Z Mz9 hin6 0 rfl rfl 12 (by decide) L40 rfl (v := .ref (ad 12)) rfl dX6_heat_45 ?_
      refine lv_iload hx hb dX6_heat_48 (lv_at hl9 0 rfl) ?_
      refine lv_if_eq (tgt := 57) hx hb dX6_heat_50 (by decide) (fun h => absurd h (by decide)) (fun _ => ?_)
      refine lv_iload_n hx hb dX6_heat_53 rfl (lv_at hl9 2 rfl) ?_
      refine lv_goto (tgt := 58) hx hb dX6_heat_54 (by decide) ?_
      refine z_iald Z Mz9 11 (h0 := ad 12) (n := 12) (f := σ 12) rfl (j := i) (by omega) (by decide) dX6_heat_58 ?_
      refine lv_aload_n hx hb dX6_heat_59 rfl (lv_at hl9 1 rfl) ?_
      refine z_getf Z Mz9 hin6 0 rfl rfl 0 (by decide) L7 rfl (v := .ref (ad 0)) rfl dX6_heat_60 ?_
      refine lv_iload hx hb dX6_heat_63 (lv_at hl9 0 rfl) ?_
      refine lv_if_eq (tgt := 76) hx hb dX6_heat_65 (by decide) (fun h => absurd h (by decide)) (fun _ => ?_)
      refine lv_aload_n hx hb dX6_heat_68 rfl (lv_at hl9 1 rfl) ?_
      refine lv_iload_n hx hb dX6_heat_69 rfl (lv_at hl9 2 rfl) ?_
      refine z_callAi (As := [.int (nI (i))]) (rest := [.ref (ad 0), .int ((σ 12) i), .int 1, .int 1, .ref o]) (rv := (σ 4) mo) (wc' := mW o ad T σ) Z Mz9 (cm_steelIs l D T o ad (σ) (i) mo (by omega) hm (by omega)) (cwV 1 hts gX6_heat_X6_steelIs rfl rfl rfl (by decide +kernel) ⟨by decide, by decide⟩) (va_recv Z.2.1 Mz9.1 (ci := 7) (q0 := 0) rfl rfl) rfl hl9.1 (Nat.le_of_ble_eq_true rfl) dX6_heat_70 ⟨by decide, by decide⟩ rfl (fun Hp9 lc9 Mz9 => ?_)
      refine zn_top (y := nI (st9)) (hs) ?_
      refine lv_goto (tgt := 77) hx hb dX6_heat_73 (by decide) ?_
      refine z_iald Z Mz9 1 (h0 := ad 0) (n := 4) (f := σ 0) rfl (j := st9) (by omega) (by decide) dX6_heat_77 ?_
      refine lv_icmp_ge (tgt := 85) hx hb dX6_heat_78 (by decide) (fun c_5 => ?_) (fun c_5 => ?_)
      ·
        refine lv_iconst (v := 0) hx hb dX6_heat_85 (by decide) ?_
        refine z_callAi (As := [.int 1, .int 1, .int 0]) (rest := []) (rv := if gth (1) (1) (0) = 0 then 1 else 0) (wc' := mW o ad T (upS σ 31 (fun _ => gth (1) (1) (0)))) Z Mz9 (cm_goes l D T o ad (σ) (1) (1) (0)) (cwV 3 hts gX6_heat_X6_goes rfl rfl rfl (by decide +kernel) ⟨by decide, by decide⟩) (va_recv Z.2.1 Mz9.1 (ci := 7) (q0 := 0) rfl rfl) rfl hl9.1 (Nat.le_of_ble_eq_true rfl) dX6_heat_86 ⟨by decide, by decide⟩ rfl (fun Hp9 lc9 Mz9 => ?_)
        refine zn_top (y := 0) (by have h := hg; simp only [if_neg c_1, if_neg c_3, if_neg (Int32.not_lt.mpr c_5)] at h; exact if_neg h) ?_
        refine lv_if_ne (tgt := 94) hx hb dX6_heat_89 (by decide) (fun h => absurd h (by decide)) (fun _ => ?_)
        refine lv_iconst (v := 0) hx hb dX6_heat_92 (by decide) ?_
        exact hret _ _ _ _ _ sl9 _ _ Mz9 (by simp only [if_neg c_1, if_neg c_3, if_neg (Int32.not_lt.mpr c_5)] <;> rfl) (rfl) (rfl) (Nat.le_refl _) (Nat.le_refl _) dX6_heat_93
      ·
        refine lv_iconst (v := 1) hx hb dX6_heat_81 (by decide) ?_
        refine lv_goto (tgt := 86) hx hb dX6_heat_82 (by decide) ?_
        refine z_callAi (As := [.int 1, .int 1, .int 1]) (rest := []) (rv := if gth (1) (1) (1) = 0 then 1 else 0) (wc' := mW o ad T (upS σ 31 (fun _ => 0))) Z Mz9 (cm_goes l D T o ad (σ) (1) (1) (1)) (cwV 3 hts gX6_heat_X6_goes rfl rfl rfl (by decide +kernel) ⟨by decide, by decide⟩) (va_recv Z.2.1 Mz9.1 (ci := 7) (q0 := 0) rfl rfl) rfl hl9.1 (Nat.le_of_ble_eq_true rfl) dX6_heat_86 ⟨by decide, by decide⟩ rfl (fun Hp9 lc9 Mz9 => ?_)
        refine zn_top (y := 0) (by have h := hg; simp only [if_neg c_1, if_neg c_3, if_pos (Int32.not_le.mp c_5)] at h; exact if_neg h) ?_
        refine lv_if_ne (tgt := 94) hx hb dX6_heat_89 (by decide) (fun h => absurd h (by decide)) (fun _ => ?_)
        refine lv_iconst (v := 0) hx hb dX6_heat_92 (by decide) ?_
        exact hret _ _ _ _ _ sl9 _ _ Mz9 (by simp only [if_neg c_1, if_neg c_3, if_pos (Int32.not_le.mp c_5)] <;> rfl) (rfl) (rfl) (Nat.le_refl _) (Nat.le_refl _) dX6_heat_93
set_option maxHeartbeats 4000000 in
set_option maxRecDepth 100000 in
theorem cm_heat_ok (l : Launch) (D : va_G) (T : Nat → ClassId) (o : Nat) (ad : Nat → Nat) (σ : Nat → Nat → Int32) (i mo st9 n : Nat) (f sk co lo gr : Int32) (hi : i < 12) (hn : n ≤ 200) (h1 : bin (nI i) 0 (σ 5 0 - 1) = 1) (h2 : bin f 200 1300 = 1) (h3 : bin (nI n) 1 200 = 1) (hm : σ 6 i = nI mo) (hmo : mo < 20) (hs : σ 4 mo = nI st9) (hst : st9 < 4) (h12 : σ 12 i < σ 0 st9) (h9 : σ 9 i = sk) (h10 : σ 10 i = co) (h20 : σ 20 i = lo) (h11 : σ 11 i = gr) : ZI l yX6_heat wsX6_heat (zrm 2 43) D T (mW o ad T σ) (mW o ad T (upS (upS (upS (upS (upS (upS (upS (upS (upS (upS σ 7 (hAr f sk (8 * i) (σ 7) (n))) 8 (FI (σ 8) (8 * i) 0)) 9 (upd (σ 9) i (hSk f sk (n)))) 10 (upd (σ 10) i (hCo f sk co (n)))) 11 (upd (σ 11) i (hGr f sk co gr (n)))) 12 (upd (σ 12) i (σ 12 i + 1))) 16 (upd (σ 16) i (-1))) 17 (upd (σ 17) i 0)) 20 (upd (σ 20) i (hLo f sk (8 * i) (σ 7) lo (n)))) 31 (fun _ => 0))) [.ref o, .int (nI (i)), .int (f), .int (nI (n))] (hCo f sk co n) 0 0 := by
  refine z_inI (cc := cX6_heat) (maxL := 6) (rt := .int) (by decide +kernel) rfl (Nat.le_of_ble_eq_true rfl) ?_
  intro p e s m args below meth c sl9 A Q Z hnm Mz9 hl9 hret
  have Z : zC p s m args c cX6_heat 6 RX6 wsX6_heat D T A := Z
  have hx := Z.1.1
  have hb := Z.1.2.1
  have hts := Z.1.2.2.2.2
  have hin6 : ∀ w ∈ wsX60, w ∈ wsX6_heat := fun w h => List.mem_cons_of_mem _ (List.mem_append_right _ h)
  have hH0 : s.heap = s.heap := rfl
  have L40 := hts (.fieldLink RX6 40 "AnvilHouseModel" "heats" "[I") (by decide +kernel)
  have L7 := hts (.fieldLink RX6 7 "AnvilHouseModel" "mayHeat" "[I") (by decide +kernel)
  have L31 := hts (.fieldLink RX6 31 "AnvilHouseModel" "skin" "[I") (by decide +kernel)
  have L37 := hts (.fieldLink RX6 37 "AnvilHouseModel" "grain" "[I") (by decide +kernel)
  have L34 := hts (.fieldLink RX6 34 "AnvilHouseModel" "core" "[I") (by decide +kernel)
  have hl9 : lv_has sl9 6 [(0, .ref o), (1, .int (nI (i))), (2, .int (f)), (3, .int (nI (n)))] := hl9
  refine lv_aload_n hx hb dX6_heat_0 rfl (lv_at hl9 0 rfl) ?_
  refine lv_iload_n hx hb dX6_heat_1 rfl (lv_at hl9 1 rfl) ?_
  refine z_callAi (As := [.int (nI (i))]) (rest := []) (rv := bin (nI (i)) 0 (σ 5 0 - 1)) (wc' := mW o ad T σ) Z Mz9 (cm_isBillet l D T o ad (σ) (nI (i))) (cwV 1 hts gX6_heat_X6_isBillet rfl rfl rfl (by decide +kernel) ⟨by decide, by decide⟩) (va_recv Z.2.1 Mz9.1 (ci := 7) (q0 := 0) rfl rfl) rfl hl9.1 (Nat.le_of_ble_eq_true rfl) dX6_heat_2 ⟨by decide, by decide⟩ rfl (fun Hp9 lc9 Mz9 => ?_)
  refine zn_top (y := 1) (h1) ?_
  refine lv_istore (lv' := [(4, .int 1), (0, .ref o), (1, .int (nI (i))), (2, .int (f)), (3, .int (nI (n)))]) hx hb dX6_heat_5 hl9 (by decide) rfl (fun sl9 hl9 => ?_)
  refine lv_aload_n hx hb dX6_heat_7 rfl (lv_at hl9 1 rfl) ?_
  refine lv_iload hx hb dX6_heat_8 (lv_at hl9 0 rfl) ?_
  refine lv_iload_n hx hb dX6_heat_10 rfl (lv_at hl9 3 rfl) ?_
  refine lv_sipush (v := 200) hx hb dX6_heat_11 (by decide) ?_
  refine lv_sipush (v := 1300) hx hb dX6_heat_14 (by decide) ?_
  refine z_callSi (As := [.int (f), .int 200, .int 1300]) (rest := [.int 1, .ref o]) Z.1 (cm_in l (f) (200) (1300)) (va_cwS 3 hts gX6_heat_X6_in rfl rfl rfl (by decide +kernel) ⟨by decide, by decide⟩) rfl hl9.1 (Nat.le_of_ble_eq_true rfl) dX6_heat_17 ⟨by decide, by decide⟩ rfl ?_
  refine zn_top (y := 1) (h2) ?_
  refine lv_if_eq (tgt := 38) hx hb dX6_heat_20 (by decide) (fun h => absurd h (by decide)) (fun _ => ?_)
  refine lv_iload_n hx hb dX6_heat_23 rfl (lv_at hl9 4 rfl) ?_
  refine lv_iconst (v := 1) hx hb dX6_heat_24 (by decide) ?_
  refine lv_sipush (v := 200) hx hb dX6_heat_25 (by decide) ?_
  refine z_callSi (As := [.int (nI (n)), .int 1, .int 200]) (rest := [.int 1, .ref o]) Z.1 (cm_in l (nI (n)) (1) (200)) (va_cwS 3 hts gX6_heat_X6_in rfl rfl rfl (by decide +kernel) ⟨by decide, by decide⟩) rfl hl9.1 (Nat.le_of_ble_eq_true rfl) dX6_heat_28 ⟨by decide, by decide⟩ rfl ?_
  refine zn_top (y := 1) (h3) ?_
  refine lv_if_eq (tgt := 38) hx hb dX6_heat_31 (by decide) (fun h => absurd h (by decide)) (fun _ => ?_)
  refine lv_iconst (v := 1) hx hb dX6_heat_34 (by decide) ?_
  refine lv_goto (tgt := 39) hx hb dX6_heat_35 (by decide) ?_
  refine lv_iload hx hb dX6_heat_39 (lv_at hl9 0 rfl) ?_
  refine lv_if_eq (tgt := 85) hx hb dX6_heat_41 (by decide) (fun h => absurd h (by decide)) (fun _ => ?_)
  refine lv_aload_n hx hb dX6_heat_44 rfl (lv_at hl9 1 rfl) ?_
  refine z_getf Z Mz9 hin6 0 rfl rfl 12 (by decide) L40 rfl (v := .ref (ad 12)) rfl dX6_heat_45 ?_
  refine lv_iload hx hb dX6_heat_48 (lv_at hl9 0 rfl) ?_
  refine lv_if_eq (tgt := 57) hx hb dX6_heat_50 (by decide) (fun h => absurd h (by decide)) (fun _ => ?_)
  refine lv_iload_n hx hb dX6_heat_53 rfl (lv_at hl9 2 rfl) ?_
  refine lv_goto (tgt := 58) hx hb dX6_heat_54 (by decide) ?_
  refine z_iald Z Mz9 11 (h0 := ad 12) (n := 12) (f := σ 12) rfl (j := i) (by omega) (by decide) dX6_heat_58 ?_
  refine lv_aload_n hx hb dX6_heat_59 rfl (lv_at hl9 1 rfl) ?_
  refine z_getf Z Mz9 hin6 0 rfl rfl 0 (by decide) L7 rfl (v := .ref (ad 0)) rfl dX6_heat_60 ?_
  refine lv_iload hx hb dX6_heat_63 (lv_at hl9 0 rfl) ?_
  refine lv_if_eq (tgt := 76) hx hb dX6_heat_65 (by decide) (fun h => absurd h (by decide)) (fun _ => ?_)
  refine lv_aload_n hx hb dX6_heat_68 rfl (lv_at hl9 1 rfl) ?_
  refine lv_iload_n hx hb dX6_heat_69 rfl (lv_at hl9 2 rfl) ?_
  refine z_callAi (As := [.int (nI (i))]) (rest := [.ref (ad 0), .int ((σ 12) i), .int 1, .int 1, .ref o]) (rv := (σ 4) mo) (wc' := mW o ad T σ) Z Mz9 (cm_steelIs l D T o ad (σ) (i) mo (by omega) hm (by omega)) (cwV 1 hts gX6_heat_X6_steelIs rfl rfl rfl (by decide +kernel) ⟨by decide, by decide⟩) (va_recv Z.2.1 Mz9.1 (ci := 7) (q0 := 0) rfl rfl) rfl hl9.1 (Nat.le_of_ble_eq_true rfl) dX6_heat_70 ⟨by decide, by decide⟩ rfl (fun Hp9 lc9 Mz9 => ?_)
  refine zn_top (y := nI (st9)) (hs) ?_
  refine lv_goto (tgt := 77) hx hb dX6_heat_73 (by decide) ?_
  refine z_iald Z Mz9 1 (h0 := ad 0) (n := 4) (f := σ 0) rfl (j := st9) (by omega) (by decide) dX6_heat_77 ?_
  refine lv_icmp_ge (tgt := 85) hx hb dX6_heat_78 (by decide) (fun h => absurd h (Int32.not_le.mpr h12)) (fun _ => ?_)
  refine lv_iconst (v := 1) hx hb dX6_heat_81 (by decide) ?_
  refine lv_goto (tgt := 86) hx hb dX6_heat_82 (by decide) ?_
  refine z_callAi (As := [.int 1, .int 1, .int 1]) (rest := []) (rv := if gth (1) (1) (1) = 0 then 1 else 0) (wc' := mW o ad T (upS σ 31 (fun _ => 0))) Z Mz9 (cm_goes l D T o ad (σ) (1) (1) (1)) (cwV 3 hts gX6_heat_X6_goes rfl rfl rfl (by decide +kernel) ⟨by decide, by decide⟩) (va_recv Z.2.1 Mz9.1 (ci := 7) (q0 := 0) rfl rfl) rfl hl9.1 (Nat.le_of_ble_eq_true rfl) dX6_heat_86 ⟨by decide, by decide⟩ rfl (fun Hp9 lc9 Mz9 => ?_)
  refine zn_top (y := 1) (by decide) ?_
  refine lv_if_ne (tgt := 94) hx hb dX6_heat_89 (by decide) (fun _ => ?_) (fun h => absurd h (by decide))
  refine lv_aload_n hx hb dX6_heat_94 rfl (lv_at hl9 1 rfl) ?_
  refine z_getf Z Mz9 hin6 0 rfl rfl 12 (by decide) L40 rfl (v := .ref (ad 12)) rfl dX6_heat_95 ?_
  refine lv_iload_n hx hb dX6_heat_98 rfl (lv_at hl9 2 rfl) ?_
  refine lv_dup2_11 hx hb dX6_heat_99 rfl rfl ?_
  refine z_iald Z Mz9 11 (h0 := ad 12) (n := 12) (f := σ 12) rfl (j := i) (by omega) (by decide) dX6_heat_100 ?_
  refine lv_iconst (v := 1) hx hb dX6_heat_101 (by decide) ?_
  refine lv_iadd hx hb dX6_heat_102 ?_
  refine z_iast Z Mz9 11 (h0 := ad 12) (n := 12) (f := σ 12) rfl (j := i) (x := ((σ 12) i) + 1) (by omega) (by decide) (ws' := mW o ad T (upS (upS σ 12 (upd (σ 12) i (((σ 12) i) + 1))) 31 (fun _ => 0))) rfl dX6_heat_103 (fun Hp9 lc9 Mz9 => ?_)
  refine lv_aload_n hx hb dX6_heat_104 rfl (lv_at hl9 1 rfl) ?_
  refine lv_iload_n hx hb dX6_heat_105 rfl (lv_at hl9 2 rfl) ?_
  refine z_callAv (As := [.int (nI (i))]) (rest := []) (wc' := mW o ad T (upS (upS (upS (upS (upS σ 8 (FI (σ 8) (8 * i) 0)) 12 (upd (σ 12) i (((σ 12) i) + 1))) 16 (upd (σ 16) i (-1))) 17 (upd (σ 17) i (0))) 31 (fun _ => 0))) Z Mz9 (cm_softens l D T o ad (upS (upS σ 12 (upd (σ 12) i (((σ 12) i) + 1))) 31 (fun _ => 0)) (i) (by omega)) (cwV 1 hts gX6_heat_X6_softens rfl rfl rfl (by decide +kernel) ⟨by decide, by decide⟩) (va_recv Z.2.1 Mz9.1 (ci := 7) (q0 := 0) rfl rfl) rfl hl9.1 (Nat.le_of_ble_eq_true rfl) dX6_heat_106 ⟨by decide, by decide⟩ rfl (fun Hp9 lc9 Mz9 => ?_)
  obtain ⟨τ, hτ⟩ : ∃ z, z = upS (upS (upS (upS (upS σ 8 (FI (σ 8) (8 * i) 0)) 12 (upd (σ 12) i (((σ 12) i) + 1))) 16 (upd (σ 16) i (-1))) 17 (upd (σ 17) i (0))) 31 (fun _ => 0) := ⟨_, rfl⟩
  have Mz9 : zM D A s.heap (mW o ad T τ) _ _ := zM_w (by rw [hτ]) Mz9
  have h9t : τ 9 i = sk := by rw [hτ]; exact h9
  have h10t : τ 10 i = co := by rw [hτ]; exact h10
  have h20t : τ 20 i = lo := by rw [hτ]; exact h20
  have h11t : τ 11 i = gr := by rw [hτ]; exact h11
  refine lv_iconst (v := 1) hx hb dX6_heat_109 (by decide) ?_
  refine lv_istore (lv' := [(5, .int 1), (4, .int 1), (0, .ref o), (1, .int (nI (i))), (2, .int (f)), (3, .int (nI (n)))]) hx hb dX6_heat_110 hl9 (by decide) rfl (fun sl9 hl9 => ?_)
  have LP112_1 : ∀ (n112 k : Nat), k + n112 = n → ∀ (Hp9 : Heap) (lc9 : List Loc) (sl9 : Array Slot), zM D A s.heap (mW o ad T (upS (upS (upS (upS (upS τ 7 (hAr f sk (8 * i) (τ 7) (k))) 9 (upd (τ 9) i (hSk f sk (k)))) 10 (upd (τ 10) i (hCo f sk co (k)))) 11 (upd (τ 11) i (hGr f sk co gr (k)))) 20 (upd (τ 20) i (hLo f sk (8 * i) (τ 7) lo (k))))) Hp9 lc9 → lv_has sl9 6 [(0, .ref o), (1, .int (nI (i))), (2, .int (f)), (3, .int (nI (n))), (5, .int (nI (k + 1)))] → W p l e (zrm 2 43) s m args below meth c Hp9 lc9 0 0 Q (F0 m 112 sl9 []) := by
    intro n112
    induction n112 with
    | zero =>
      intro k hk9 Hp9 lc9 sl9 Mz9 hl9
      obtain rfl : n = k := by omega
      refine lv_iload hx hb dX6_heat_112 (lv_at hl9 4 rfl) ?_
      refine lv_iload_n hx hb dX6_heat_114 rfl (lv_at hl9 3 rfl) ?_
      refine zn_icmp_gt (a := n + 1) (b := n) (tgt := 218) (by omega) (by omega) hx hb dX6_heat_115 (by decide) (fun _ => ?_) (fun h => absurd h (by omega))
      refine lv_aload_n hx hb dX6_heat_218 rfl (lv_at hl9 0 rfl) ?_
      refine z_getf Z Mz9 hin6 0 rfl rfl 10 (by decide) L34 rfl (v := .ref (ad 10)) rfl dX6_heat_219 ?_
      refine lv_iload_n hx hb dX6_heat_222 rfl (lv_at hl9 1 rfl) ?_
      refine z_iald Z Mz9 9 (h0 := ad 10) (n := 12) (f := upd (τ 10) i (hCo f sk co (n))) rfl (j := i) (by omega) (by decide) dX6_heat_223 ?_
      refine zn_top (y := hCo f sk co (n)) (upd_same _ _ _) ?_
      exact hret _ _ _ _ _ sl9 _ _ Mz9 (by rw [hτ]; rfl) (rfl) (rfl) (Nat.le_refl _) (Nat.le_refl _) dX6_heat_224
    | succ n112 ih112 =>
      intro k hk9 Hp9 lc9 sl9 Mz9 hl9
      refine lv_iload hx hb dX6_heat_112 (lv_at hl9 4 rfl) ?_
      refine lv_iload_n hx hb dX6_heat_114 rfl (lv_at hl9 3 rfl) ?_
      refine zn_icmp_gt (a := k + 1) (b := n) (tgt := 218) (by omega) (by omega) hx hb dX6_heat_115 (by decide) (fun h => absurd h (by omega)) (fun _ => ?_)
      refine lv_aload_n hx hb dX6_heat_118 rfl (lv_at hl9 0 rfl) ?_
      refine z_getf Z Mz9 hin6 0 rfl rfl 9 (by decide) L31 rfl (v := .ref (ad 9)) rfl dX6_heat_119 ?_
      refine lv_iload_n hx hb dX6_heat_122 rfl (lv_at hl9 1 rfl) ?_
      refine lv_dup2_11 hx hb dX6_heat_123 rfl rfl ?_
      refine z_iald Z Mz9 8 (h0 := ad 9) (n := 12) (f := upd (τ 9) i (hSk f sk (k))) rfl (j := i) (by omega) (by decide) dX6_heat_124 ?_
      refine zn_top (y := hSk f sk (k)) (upd_same _ _ _) ?_
      refine lv_iload_n hx hb dX6_heat_125 rfl (lv_at hl9 2 rfl) ?_
      refine lv_aload_n hx hb dX6_heat_126 rfl (lv_at hl9 0 rfl) ?_
      refine z_getf Z Mz9 hin6 0 rfl rfl 9 (by decide) L31 rfl (v := .ref (ad 9)) rfl dX6_heat_127 ?_
      refine lv_iload_n hx hb dX6_heat_130 rfl (lv_at hl9 1 rfl) ?_
      refine z_iald Z Mz9 8 (h0 := ad 9) (n := 12) (f := upd (τ 9) i (hSk f sk (k))) rfl (j := i) (by omega) (by decide) dX6_heat_131 ?_
      refine zn_top (y := hSk f sk (k)) (upd_same _ _ _) ?_
      refine lv_isub hx hb dX6_heat_132 ?_
      refine lv_iconst (v := 4) hx hb dX6_heat_133 (by decide) ?_
      refine lv_idiv hx hb dX6_heat_134 (by decide) ?_
      refine lv_iadd hx hb dX6_heat_135 ?_
      refine zn_top (y := hSk f sk (k + 1)) rfl ?_
      refine z_iast Z Mz9 8 (h0 := ad 9) (n := 12) (f := upd (τ 9) i (hSk f sk (k))) rfl (j := i) (x := hSk f sk (k + 1)) (by omega) (by decide) (ws' := mW o ad T (upS (upS (upS (upS (upS τ 7 (hAr f sk (8 * i) (τ 7) (k))) 9 (upd (upd (τ 9) i (hSk f sk (k))) i (hSk f sk (k + 1)))) 10 (upd (τ 10) i (hCo f sk co (k)))) 11 (upd (τ 11) i (hGr f sk co gr (k)))) 20 (upd (τ 20) i (hLo f sk (8 * i) (τ 7) lo (k))))) rfl dX6_heat_136 (fun Hp9 lc9 Mz9 => ?_)
      refine lv_aload_n hx hb dX6_heat_137 rfl (lv_at hl9 0 rfl) ?_
      refine lv_iload_n hx hb dX6_heat_138 rfl (lv_at hl9 1 rfl) ?_
      refine z_callAv (As := [.int (nI (i))]) (rest := []) (wc' := mW o ad T (upS (upS (upS (upS (upS τ 7 (hAr f sk (8 * i) (τ 7) (k))) 9 (upd (upd (τ 9) i (hSk f sk (k))) i (hSk f sk (k + 1)))) 10 (upd (upd (τ 10) i (hCo f sk co (k))) i (wrm (hSk f sk (k + 1)) (hCo f sk co (k))))) 11 (upd (τ 11) i (hGr f sk co gr (k)))) 20 (upd (τ 20) i (hLo f sk (8 * i) (τ 7) lo (k))))) Z Mz9 (cm_follows l D T o ad (upS (upS (upS (upS (upS τ 7 (hAr f sk (8 * i) (τ 7) (k))) 9 (upd (upd (τ 9) i (hSk f sk (k))) i (hSk f sk (k + 1)))) 10 (upd (τ 10) i (hCo f sk co (k)))) 11 (upd (τ 11) i (hGr f sk co gr (k)))) 20 (upd (τ 20) i (hLo f sk (8 * i) (τ 7) lo (k)))) (i) (hSk f sk (k + 1)) (hCo f sk co (k)) (by omega) (upd_same _ _ _) (upd_same _ _ _)) (cwV 1 hts gX6_heat_X6_follows rfl rfl rfl (by decide +kernel) ⟨by decide, by decide⟩) (va_recv Z.2.1 Mz9.1 (ci := 7) (q0 := 0) rfl rfl) rfl hl9.1 (Nat.le_of_ble_eq_true rfl) dX6_heat_139 ⟨by decide, by decide⟩ rfl (fun Hp9 lc9 Mz9 => ?_)
      have Mz9 : zM D A s.heap (mW o ad T (upS (upS (upS (upS (upS τ 7 (hAr f sk (8 * i) (τ 7) (k))) 9 (upd (upd (τ 9) i (hSk f sk (k))) i (hSk f sk (k + 1)))) 10 (upd (upd (τ 10) i (hCo f sk co (k))) i (hCo f sk co (k + 1)))) 11 (upd (τ 11) i (hGr f sk co gr (k)))) 20 (upd (τ 20) i (hLo f sk (8 * i) (τ 7) lo (k))))) _ _ := zM_w (by rfl) Mz9
      refine lv_iload hx hb dX6_heat_142 (lv_at hl9 4 rfl) ?_
      refine lv_iconst (v := 5) hx hb dX6_heat_144 (by decide) ?_
      refine zn_irem (a := k + 1) (b := 5) (by omega) (by decide) (by decide) hx hb dX6_heat_145 ?_
      refine zn_if_ne (a := (k + 1) % 5) (tgt := 166) (by omega) hx hb dX6_heat_146 (by decide) (fun c_1 => ?_) (fun c_1 => ?_)
      ·
        refine lv_aload_n hx hb dX6_heat_166 rfl (lv_at hl9 0 rfl) ?_
        refine z_getf Z Mz9 hin6 0 rfl rfl 11 (by decide) L37 rfl (v := .ref (ad 11)) rfl dX6_heat_167 ?_
        refine lv_iload_n hx hb dX6_heat_170 rfl (lv_at hl9 1 rfl) ?_
        refine lv_dup2_11 hx hb dX6_heat_171 rfl rfl ?_
        refine z_iald Z Mz9 10 (h0 := ad 11) (n := 12) (f := upd (τ 11) i (hGr f sk co gr (k))) rfl (j := i) (by omega) (by decide) dX6_heat_172 ?_
        refine zn_top (y := hGr f sk co gr (k)) (upd_same _ _ _) ?_
        refine lv_iload hx hb dX6_heat_173 (lv_at hl9 4 rfl) ?_
        refine lv_bipush (v := 10) hx hb dX6_heat_175 (by decide) ?_
        refine zn_irem (a := k + 1) (b := 10) (by omega) (by decide) (by decide) hx hb dX6_heat_177 ?_
        refine zn_if_ne (a := (k + 1) % 10) (tgt := 209) (by omega) hx hb dX6_heat_178 (by decide) (fun c_2 => ?_) (fun c_2 => ?_)
        ·
          refine lv_iconst (v := 0) hx hb dX6_heat_209 (by decide) ?_
          refine lv_iadd hx hb dX6_heat_210 ?_
          refine z_iast Z Mz9 10 (h0 := ad 11) (n := 12) (f := upd (τ 11) i (hGr f sk co gr (k))) rfl (j := i) (x := (hGr f sk co gr (k)) + 0) (by omega) (by decide) (ws' := mW o ad T (upS (upS (upS (upS (upS τ 7 (hAr f sk (8 * i) (τ 7) (k))) 9 (upd (upd (τ 9) i (hSk f sk (k))) i (hSk f sk (k + 1)))) 10 (upd (upd (τ 10) i (hCo f sk co (k))) i (hCo f sk co (k + 1)))) 11 (upd (upd (τ 11) i (hGr f sk co gr (k))) i ((hGr f sk co gr (k)) + 0))) 20 (upd (τ 20) i (hLo f sk (8 * i) (τ 7) lo (k))))) rfl dX6_heat_211 (fun Hp9 lc9 Mz9 => ?_)
          refine lv_iinc (v := nI ((k + 1) + 1)) (lv' := [(5, .int (nI ((k + 1) + 1))), (0, .ref o), (1, .int (nI (i))), (2, .int (f)), (3, .int (nI (n)))]) hx hb dX6_heat_212 hl9 (k := 4) rfl (nI_add (k + 1) 1) (by decide) rfl (fun sl9 hl9 => ?_)
          refine lv_goto (tgt := 112) hx hb dX6_heat_215 (by decide) ?_
          exact ih112 (k + 1) (by omega)  _ _ _ (zM_w (by simp only [hAr, hLo, hGr, upd_same, upd_upd, add_0, if_neg c_1, if_neg c_2]) Mz9) (lv_sub hl9 [1, 2, 3, 4, 0] rfl)
        ·
          refine lv_aload_n hx hb dX6_heat_181 rfl (lv_at hl9 0 rfl) ?_
          refine z_getf Z Mz9 hin6 0 rfl rfl 10 (by decide) L34 rfl (v := .ref (ad 10)) rfl dX6_heat_182 ?_
          refine lv_iload_n hx hb dX6_heat_185 rfl (lv_at hl9 1 rfl) ?_
          refine z_iald Z Mz9 9 (h0 := ad 10) (n := 12) (f := upd (upd (τ 10) i (hCo f sk co (k))) i (hCo f sk co (k + 1))) rfl (j := i) (by omega) (by decide) dX6_heat_186 ?_
          refine zn_top (y := hCo f sk co (k + 1)) (upd_same _ _ _) ?_
          refine lv_sipush (v := 900) hx hb dX6_heat_187 (by decide) ?_
          refine lv_icmp_lt (tgt := 209) hx hb dX6_heat_190 (by decide) (fun c_3 => ?_) (fun c_3 => ?_)
          ·
            refine lv_iconst (v := 0) hx hb dX6_heat_209 (by decide) ?_
            refine lv_iadd hx hb dX6_heat_210 ?_
            refine z_iast Z Mz9 10 (h0 := ad 11) (n := 12) (f := upd (τ 11) i (hGr f sk co gr (k))) rfl (j := i) (x := (hGr f sk co gr (k)) + 0) (by omega) (by decide) (ws' := mW o ad T (upS (upS (upS (upS (upS τ 7 (hAr f sk (8 * i) (τ 7) (k))) 9 (upd (upd (τ 9) i (hSk f sk (k))) i (hSk f sk (k + 1)))) 10 (upd (upd (τ 10) i (hCo f sk co (k))) i (hCo f sk co (k + 1)))) 11 (upd (upd (τ 11) i (hGr f sk co gr (k))) i ((hGr f sk co gr (k)) + 0))) 20 (upd (τ 20) i (hLo f sk (8 * i) (τ 7) lo (k))))) rfl dX6_heat_211 (fun Hp9 lc9 Mz9 => ?_)
            refine lv_iinc (v := nI ((k + 1) + 1)) (lv' := [(5, .int (nI ((k + 1) + 1))), (0, .ref o), (1, .int (nI (i))), (2, .int (f)), (3, .int (nI (n)))]) hx hb dX6_heat_212 hl9 (k := 4) rfl (nI_add (k + 1) 1) (by decide) rfl (fun sl9 hl9 => ?_)
            refine lv_goto (tgt := 112) hx hb dX6_heat_215 (by decide) ?_
            exact ih112 (k + 1) (by omega)  _ _ _ (zM_w (by simp only [hAr, hLo, hGr, upd_same, upd_upd, add_0, if_neg c_1, if_pos c_2, if_pos c_3]) Mz9) (lv_sub hl9 [1, 2, 3, 4, 0] rfl)
          ·
            refine lv_aload_n hx hb dX6_heat_193 rfl (lv_at hl9 0 rfl) ?_
            refine z_getf Z Mz9 hin6 0 rfl rfl 11 (by decide) L37 rfl (v := .ref (ad 11)) rfl dX6_heat_194 ?_
            refine lv_iload_n hx hb dX6_heat_197 rfl (lv_at hl9 1 rfl) ?_
            refine z_iald Z Mz9 10 (h0 := ad 11) (n := 12) (f := upd (τ 11) i (hGr f sk co gr (k))) rfl (j := i) (by omega) (by decide) dX6_heat_198 ?_
            refine zn_top (y := hGr f sk co gr (k)) (upd_same _ _ _) ?_
            refine lv_sipush (v := 200) hx hb dX6_heat_199 (by decide) ?_
            refine lv_icmp_ge (tgt := 209) hx hb dX6_heat_202 (by decide) (fun c_4 => ?_) (fun c_4 => ?_)
            ·
              refine lv_iconst (v := 0) hx hb dX6_heat_209 (by decide) ?_
              refine lv_iadd hx hb dX6_heat_210 ?_
              refine z_iast Z Mz9 10 (h0 := ad 11) (n := 12) (f := upd (τ 11) i (hGr f sk co gr (k))) rfl (j := i) (x := (hGr f sk co gr (k)) + 0) (by omega) (by decide) (ws' := mW o ad T (upS (upS (upS (upS (upS τ 7 (hAr f sk (8 * i) (τ 7) (k))) 9 (upd (upd (τ 9) i (hSk f sk (k))) i (hSk f sk (k + 1)))) 10 (upd (upd (τ 10) i (hCo f sk co (k))) i (hCo f sk co (k + 1)))) 11 (upd (upd (τ 11) i (hGr f sk co gr (k))) i ((hGr f sk co gr (k)) + 0))) 20 (upd (τ 20) i (hLo f sk (8 * i) (τ 7) lo (k))))) rfl dX6_heat_211 (fun Hp9 lc9 Mz9 => ?_)
              refine lv_iinc (v := nI ((k + 1) + 1)) (lv' := [(5, .int (nI ((k + 1) + 1))), (0, .ref o), (1, .int (nI (i))), (2, .int (f)), (3, .int (nI (n)))]) hx hb dX6_heat_212 hl9 (k := 4) rfl (nI_add (k + 1) 1) (by decide) rfl (fun sl9 hl9 => ?_)
              refine lv_goto (tgt := 112) hx hb dX6_heat_215 (by decide) ?_
              exact ih112 (k + 1) (by omega)  _ _ _ (zM_w (by simp only [hAr, hLo, hGr, upd_same, upd_upd, add_0, if_neg c_1, if_pos c_2, if_neg c_3, if_neg (Int32.not_lt.mpr c_4)]) Mz9) (lv_sub hl9 [1, 2, 3, 4, 0] rfl)
            ·
              refine lv_iconst (v := 1) hx hb dX6_heat_205 (by decide) ?_
              refine lv_goto (tgt := 210) hx hb dX6_heat_206 (by decide) ?_
              refine lv_iadd hx hb dX6_heat_210 ?_
              refine z_iast Z Mz9 10 (h0 := ad 11) (n := 12) (f := upd (τ 11) i (hGr f sk co gr (k))) rfl (j := i) (x := (hGr f sk co gr (k)) + 1) (by omega) (by decide) (ws' := mW o ad T (upS (upS (upS (upS (upS τ 7 (hAr f sk (8 * i) (τ 7) (k))) 9 (upd (upd (τ 9) i (hSk f sk (k))) i (hSk f sk (k + 1)))) 10 (upd (upd (τ 10) i (hCo f sk co (k))) i (hCo f sk co (k + 1)))) 11 (upd (upd (τ 11) i (hGr f sk co gr (k))) i ((hGr f sk co gr (k)) + 1))) 20 (upd (τ 20) i (hLo f sk (8 * i) (τ 7) lo (k))))) rfl dX6_heat_211 (fun Hp9 lc9 Mz9 => ?_)
              refine lv_iinc (v := nI ((k + 1) + 1)) (lv' := [(5, .int (nI ((k + 1) + 1))), (0, .ref o), (1, .int (nI (i))), (2, .int (f)), (3, .int (nI (n)))]) hx hb dX6_heat_212 hl9 (k := 4) rfl (nI_add (k + 1) 1) (by decide) rfl (fun sl9 hl9 => ?_)
              refine lv_goto (tgt := 112) hx hb dX6_heat_215 (by decide) ?_
              exact ih112 (k + 1) (by omega)  _ _ _ (zM_w (by simp only [hAr, hLo, hGr, upd_same, upd_upd, add_0, if_neg c_1, if_pos c_2, if_neg c_3, if_pos (Int32.not_le.mp c_4)]) Mz9) (lv_sub hl9 [1, 2, 3, 4, 0] rfl)
      ·
        refine lv_aload_n hx hb dX6_heat_149 rfl (lv_at hl9 0 rfl) ?_
        refine z_getf Z Mz9 hin6 0 rfl rfl 9 (by decide) L31 rfl (v := .ref (ad 9)) rfl dX6_heat_150 ?_
        refine lv_iload_n hx hb dX6_heat_153 rfl (lv_at hl9 1 rfl) ?_
        refine z_iald Z Mz9 8 (h0 := ad 9) (n := 12) (f := upd (upd (τ 9) i (hSk f sk (k))) i (hSk f sk (k + 1))) rfl (j := i) (by omega) (by decide) dX6_heat_154 ?_
        refine zn_top (y := hSk f sk (k + 1)) (upd_same _ _ _) ?_
        refine lv_sipush (v := 800) hx hb dX6_heat_155 (by decide) ?_
        refine lv_icmp_lt (tgt := 166) hx hb dX6_heat_158 (by decide) (fun c_5 => ?_) (fun c_5 => ?_)
        ·
          refine lv_aload_n hx hb dX6_heat_166 rfl (lv_at hl9 0 rfl) ?_
          refine z_getf Z Mz9 hin6 0 rfl rfl 11 (by decide) L37 rfl (v := .ref (ad 11)) rfl dX6_heat_167 ?_
          refine lv_iload_n hx hb dX6_heat_170 rfl (lv_at hl9 1 rfl) ?_
          refine lv_dup2_11 hx hb dX6_heat_171 rfl rfl ?_
          refine z_iald Z Mz9 10 (h0 := ad 11) (n := 12) (f := upd (τ 11) i (hGr f sk co gr (k))) rfl (j := i) (by omega) (by decide) dX6_heat_172 ?_
          refine zn_top (y := hGr f sk co gr (k)) (upd_same _ _ _) ?_
          refine lv_iload hx hb dX6_heat_173 (lv_at hl9 4 rfl) ?_
          refine lv_bipush (v := 10) hx hb dX6_heat_175 (by decide) ?_
          refine zn_irem (a := k + 1) (b := 10) (by omega) (by decide) (by decide) hx hb dX6_heat_177 ?_
          refine zn_if_ne (a := (k + 1) % 10) (tgt := 209) (by omega) hx hb dX6_heat_178 (by decide) (fun c_6 => ?_) (fun c_6 => ?_)
          ·
            refine lv_iconst (v := 0) hx hb dX6_heat_209 (by decide) ?_
            refine lv_iadd hx hb dX6_heat_210 ?_
            refine z_iast Z Mz9 10 (h0 := ad 11) (n := 12) (f := upd (τ 11) i (hGr f sk co gr (k))) rfl (j := i) (x := (hGr f sk co gr (k)) + 0) (by omega) (by decide) (ws' := mW o ad T (upS (upS (upS (upS (upS τ 7 (hAr f sk (8 * i) (τ 7) (k))) 9 (upd (upd (τ 9) i (hSk f sk (k))) i (hSk f sk (k + 1)))) 10 (upd (upd (τ 10) i (hCo f sk co (k))) i (hCo f sk co (k + 1)))) 11 (upd (upd (τ 11) i (hGr f sk co gr (k))) i ((hGr f sk co gr (k)) + 0))) 20 (upd (τ 20) i (hLo f sk (8 * i) (τ 7) lo (k))))) rfl dX6_heat_211 (fun Hp9 lc9 Mz9 => ?_)
            refine lv_iinc (v := nI ((k + 1) + 1)) (lv' := [(5, .int (nI ((k + 1) + 1))), (0, .ref o), (1, .int (nI (i))), (2, .int (f)), (3, .int (nI (n)))]) hx hb dX6_heat_212 hl9 (k := 4) rfl (nI_add (k + 1) 1) (by decide) rfl (fun sl9 hl9 => ?_)
            refine lv_goto (tgt := 112) hx hb dX6_heat_215 (by decide) ?_
            exact ih112 (k + 1) (by omega)  _ _ _ (zM_w (by simp only [hAr, hLo, hGr, upd_same, upd_upd, add_0, if_pos c_1, if_pos c_5, if_neg c_6]) Mz9) (lv_sub hl9 [1, 2, 3, 4, 0] rfl)
          ·
            refine lv_aload_n hx hb dX6_heat_181 rfl (lv_at hl9 0 rfl) ?_
            refine z_getf Z Mz9 hin6 0 rfl rfl 10 (by decide) L34 rfl (v := .ref (ad 10)) rfl dX6_heat_182 ?_
            refine lv_iload_n hx hb dX6_heat_185 rfl (lv_at hl9 1 rfl) ?_
            refine z_iald Z Mz9 9 (h0 := ad 10) (n := 12) (f := upd (upd (τ 10) i (hCo f sk co (k))) i (hCo f sk co (k + 1))) rfl (j := i) (by omega) (by decide) dX6_heat_186 ?_
            refine zn_top (y := hCo f sk co (k + 1)) (upd_same _ _ _) ?_
            refine lv_sipush (v := 900) hx hb dX6_heat_187 (by decide) ?_
            refine lv_icmp_lt (tgt := 209) hx hb dX6_heat_190 (by decide) (fun c_7 => ?_) (fun c_7 => ?_)
            ·
              refine lv_iconst (v := 0) hx hb dX6_heat_209 (by decide) ?_
              refine lv_iadd hx hb dX6_heat_210 ?_
              refine z_iast Z Mz9 10 (h0 := ad 11) (n := 12) (f := upd (τ 11) i (hGr f sk co gr (k))) rfl (j := i) (x := (hGr f sk co gr (k)) + 0) (by omega) (by decide) (ws' := mW o ad T (upS (upS (upS (upS (upS τ 7 (hAr f sk (8 * i) (τ 7) (k))) 9 (upd (upd (τ 9) i (hSk f sk (k))) i (hSk f sk (k + 1)))) 10 (upd (upd (τ 10) i (hCo f sk co (k))) i (hCo f sk co (k + 1)))) 11 (upd (upd (τ 11) i (hGr f sk co gr (k))) i ((hGr f sk co gr (k)) + 0))) 20 (upd (τ 20) i (hLo f sk (8 * i) (τ 7) lo (k))))) rfl dX6_heat_211 (fun Hp9 lc9 Mz9 => ?_)
              refine lv_iinc (v := nI ((k + 1) + 1)) (lv' := [(5, .int (nI ((k + 1) + 1))), (0, .ref o), (1, .int (nI (i))), (2, .int (f)), (3, .int (nI (n)))]) hx hb dX6_heat_212 hl9 (k := 4) rfl (nI_add (k + 1) 1) (by decide) rfl (fun sl9 hl9 => ?_)
              refine lv_goto (tgt := 112) hx hb dX6_heat_215 (by decide) ?_
              exact ih112 (k + 1) (by omega)  _ _ _ (zM_w (by simp only [hAr, hLo, hGr, upd_same, upd_upd, add_0, if_pos c_1, if_pos c_5, if_pos c_6, if_pos c_7]) Mz9) (lv_sub hl9 [1, 2, 3, 4, 0] rfl)
            ·
              refine lv_aload_n hx hb dX6_heat_193 rfl (lv_at hl9 0 rfl) ?_
              refine z_getf Z Mz9 hin6 0 rfl rfl 11 (by decide) L37 rfl (v := .ref (ad 11)) rfl dX6_heat_194 ?_
              refine lv_iload_n hx hb dX6_heat_197 rfl (lv_at hl9 1 rfl) ?_
              refine z_iald Z Mz9 10 (h0 := ad 11) (n := 12) (f := upd (τ 11) i (hGr f sk co gr (k))) rfl (j := i) (by omega) (by decide) dX6_heat_198 ?_
              refine zn_top (y := hGr f sk co gr (k)) (upd_same _ _ _) ?_
              refine lv_sipush (v := 200) hx hb dX6_heat_199 (by decide) ?_
              refine lv_icmp_ge (tgt := 209) hx hb dX6_heat_202 (by decide) (fun c_8 => ?_) (fun c_8 => ?_)
              ·
                refine lv_iconst (v := 0) hx hb dX6_heat_209 (by decide) ?_
                refine lv_iadd hx hb dX6_heat_210 ?_
                refine z_iast Z Mz9 10 (h0 := ad 11) (n := 12) (f := upd (τ 11) i (hGr f sk co gr (k))) rfl (j := i) (x := (hGr f sk co gr (k)) + 0) (by omega) (by decide) (ws' := mW o ad T (upS (upS (upS (upS (upS τ 7 (hAr f sk (8 * i) (τ 7) (k))) 9 (upd (upd (τ 9) i (hSk f sk (k))) i (hSk f sk (k + 1)))) 10 (upd (upd (τ 10) i (hCo f sk co (k))) i (hCo f sk co (k + 1)))) 11 (upd (upd (τ 11) i (hGr f sk co gr (k))) i ((hGr f sk co gr (k)) + 0))) 20 (upd (τ 20) i (hLo f sk (8 * i) (τ 7) lo (k))))) rfl dX6_heat_211 (fun Hp9 lc9 Mz9 => ?_)
                refine lv_iinc (v := nI ((k + 1) + 1)) (lv' := [(5, .int (nI ((k + 1) + 1))), (0, .ref o), (1, .int (nI (i))), (2, .int (f)), (3, .int (nI (n)))]) hx hb dX6_heat_212 hl9 (k := 4) rfl (nI_add (k + 1) 1) (by decide) rfl (fun sl9 hl9 => ?_)
                refine lv_goto (tgt := 112) hx hb dX6_heat_215 (by decide) ?_
                exact ih112 (k + 1) (by omega)  _ _ _ (zM_w (by simp only [hAr, hLo, hGr, upd_same, upd_upd, add_0, if_pos c_1, if_pos c_5, if_pos c_6, if_neg c_7, if_neg (Int32.not_lt.mpr c_8)]) Mz9) (lv_sub hl9 [1, 2, 3, 4, 0] rfl)
              ·
                refine lv_iconst (v := 1) hx hb dX6_heat_205 (by decide) ?_
                refine lv_goto (tgt := 210) hx hb dX6_heat_206 (by decide) ?_
                refine lv_iadd hx hb dX6_heat_210 ?_
                refine z_iast Z Mz9 10 (h0 := ad 11) (n := 12) (f := upd (τ 11) i (hGr f sk co gr (k))) rfl (j := i) (x := (hGr f sk co gr (k)) + 1) (by omega) (by decide) (ws' := mW o ad T (upS (upS (upS (upS (upS τ 7 (hAr f sk (8 * i) (τ 7) (k))) 9 (upd (upd (τ 9) i (hSk f sk (k))) i (hSk f sk (k + 1)))) 10 (upd (upd (τ 10) i (hCo f sk co (k))) i (hCo f sk co (k + 1)))) 11 (upd (upd (τ 11) i (hGr f sk co gr (k))) i ((hGr f sk co gr (k)) + 1))) 20 (upd (τ 20) i (hLo f sk (8 * i) (τ 7) lo (k))))) rfl dX6_heat_211 (fun Hp9 lc9 Mz9 => ?_)
                refine lv_iinc (v := nI ((k + 1) + 1)) (lv' := [(5, .int (nI ((k + 1) + 1))), (0, .ref o), (1, .int (nI (i))), (2, .int (f)), (3, .int (nI (n)))]) hx hb dX6_heat_212 hl9 (k := 4) rfl (nI_add (k + 1) 1) (by decide) rfl (fun sl9 hl9 => ?_)
                refine lv_goto (tgt := 112) hx hb dX6_heat_215 (by decide) ?_
                exact ih112 (k + 1) (by omega)  _ _ _ (zM_w (by simp only [hAr, hLo, hGr, upd_same, upd_upd, add_0, if_pos c_1, if_pos c_5, if_pos c_6, if_neg c_7, if_pos (Int32.not_le.mp c_8)]) Mz9) (lv_sub hl9 [1, 2, 3, 4, 0] rfl)
        ·
          refine lv_aload_n hx hb dX6_heat_161 rfl (lv_at hl9 0 rfl) ?_
          refine lv_iload_n hx hb dX6_heat_162 rfl (lv_at hl9 1 rfl) ?_
          refine z_callAv (As := [.int (nI (i))]) (rest := []) (wc' := mW o ad T (upS (upS (upS (upS (upS τ 7 (SA (hAr f sk (8 * i) (τ 7) (k)) (8 * i))) 9 (upd (upd (τ 9) i (hSk f sk (k))) i (hSk f sk (k + 1)))) 10 (upd (upd (τ 10) i (hCo f sk co (k))) i (hCo f sk co (k + 1)))) 11 (upd (τ 11) i (hGr f sk co gr (k)))) 20 (upd (upd (τ 20) i (hLo f sk (8 * i) (τ 7) lo (k))) i (SN (hAr f sk (8 * i) (τ 7) (k)) (8 * i) (hLo f sk (8 * i) (τ 7) lo (k)))))) Z Mz9 (cm_scales l D T o ad (upS (upS (upS (upS (upS τ 7 (hAr f sk (8 * i) (τ 7) (k))) 9 (upd (upd (τ 9) i (hSk f sk (k))) i (hSk f sk (k + 1)))) 10 (upd (upd (τ 10) i (hCo f sk co (k))) i (hCo f sk co (k + 1)))) 11 (upd (τ 11) i (hGr f sk co gr (k)))) 20 (upd (τ 20) i (hLo f sk (8 * i) (τ 7) lo (k)))) (i) (hLo f sk (8 * i) (τ 7) lo (k)) (by omega) (upd_same _ _ _)) (cwV 1 hts gX6_heat_X6_scales rfl rfl rfl (by decide +kernel) ⟨by decide, by decide⟩) (va_recv Z.2.1 Mz9.1 (ci := 7) (q0 := 0) rfl rfl) rfl hl9.1 (Nat.le_of_ble_eq_true rfl) dX6_heat_163 ⟨by decide, by decide⟩ rfl (fun Hp9 lc9 Mz9 => ?_)
          refine lv_aload_n hx hb dX6_heat_166 rfl (lv_at hl9 0 rfl) ?_
          refine z_getf Z Mz9 hin6 0 rfl rfl 11 (by decide) L37 rfl (v := .ref (ad 11)) rfl dX6_heat_167 ?_
          refine lv_iload_n hx hb dX6_heat_170 rfl (lv_at hl9 1 rfl) ?_
          refine lv_dup2_11 hx hb dX6_heat_171 rfl rfl ?_
          refine z_iald Z Mz9 10 (h0 := ad 11) (n := 12) (f := upd (τ 11) i (hGr f sk co gr (k))) rfl (j := i) (by omega) (by decide) dX6_heat_172 ?_
          refine zn_top (y := hGr f sk co gr (k)) (upd_same _ _ _) ?_
          refine lv_iload hx hb dX6_heat_173 (lv_at hl9 4 rfl) ?_
          refine lv_bipush (v := 10) hx hb dX6_heat_175 (by decide) ?_
          refine zn_irem (a := k + 1) (b := 10) (by omega) (by decide) (by decide) hx hb dX6_heat_177 ?_
          refine zn_if_ne (a := (k + 1) % 10) (tgt := 209) (by omega) hx hb dX6_heat_178 (by decide) (fun c_9 => ?_) (fun c_9 => ?_)
          ·
            refine lv_iconst (v := 0) hx hb dX6_heat_209 (by decide) ?_
            refine lv_iadd hx hb dX6_heat_210 ?_
            refine z_iast Z Mz9 10 (h0 := ad 11) (n := 12) (f := upd (τ 11) i (hGr f sk co gr (k))) rfl (j := i) (x := (hGr f sk co gr (k)) + 0) (by omega) (by decide) (ws' := mW o ad T (upS (upS (upS (upS (upS τ 7 (SA (hAr f sk (8 * i) (τ 7) (k)) (8 * i))) 9 (upd (upd (τ 9) i (hSk f sk (k))) i (hSk f sk (k + 1)))) 10 (upd (upd (τ 10) i (hCo f sk co (k))) i (hCo f sk co (k + 1)))) 11 (upd (upd (τ 11) i (hGr f sk co gr (k))) i ((hGr f sk co gr (k)) + 0))) 20 (upd (upd (τ 20) i (hLo f sk (8 * i) (τ 7) lo (k))) i (SN (hAr f sk (8 * i) (τ 7) (k)) (8 * i) (hLo f sk (8 * i) (τ 7) lo (k)))))) rfl dX6_heat_211 (fun Hp9 lc9 Mz9 => ?_)
            refine lv_iinc (v := nI ((k + 1) + 1)) (lv' := [(5, .int (nI ((k + 1) + 1))), (0, .ref o), (1, .int (nI (i))), (2, .int (f)), (3, .int (nI (n)))]) hx hb dX6_heat_212 hl9 (k := 4) rfl (nI_add (k + 1) 1) (by decide) rfl (fun sl9 hl9 => ?_)
            refine lv_goto (tgt := 112) hx hb dX6_heat_215 (by decide) ?_
            exact ih112 (k + 1) (by omega)  _ _ _ (zM_w (by simp only [hAr, hLo, hGr, upd_same, upd_upd, add_0, if_pos c_1, if_neg c_5, if_neg c_9]) Mz9) (lv_sub hl9 [1, 2, 3, 4, 0] rfl)
          ·
            refine lv_aload_n hx hb dX6_heat_181 rfl (lv_at hl9 0 rfl) ?_
            refine z_getf Z Mz9 hin6 0 rfl rfl 10 (by decide) L34 rfl (v := .ref (ad 10)) rfl dX6_heat_182 ?_
            refine lv_iload_n hx hb dX6_heat_185 rfl (lv_at hl9 1 rfl) ?_
            refine z_iald Z Mz9 9 (h0 := ad 10) (n := 12) (f := upd (upd (τ 10) i (hCo f sk co (k))) i (hCo f sk co (k + 1))) rfl (j := i) (by omega) (by decide) dX6_heat_186 ?_
            refine zn_top (y := hCo f sk co (k + 1)) (upd_same _ _ _) ?_
            refine lv_sipush (v := 900) hx hb dX6_heat_187 (by decide) ?_
            refine lv_icmp_lt (tgt := 209) hx hb dX6_heat_190 (by decide) (fun c_10 => ?_) (fun c_10 => ?_)
            ·
              refine lv_iconst (v := 0) hx hb dX6_heat_209 (by decide) ?_
              refine lv_iadd hx hb dX6_heat_210 ?_
              refine z_iast Z Mz9 10 (h0 := ad 11) (n := 12) (f := upd (τ 11) i (hGr f sk co gr (k))) rfl (j := i) (x := (hGr f sk co gr (k)) + 0) (by omega) (by decide) (ws' := mW o ad T (upS (upS (upS (upS (upS τ 7 (SA (hAr f sk (8 * i) (τ 7) (k)) (8 * i))) 9 (upd (upd (τ 9) i (hSk f sk (k))) i (hSk f sk (k + 1)))) 10 (upd (upd (τ 10) i (hCo f sk co (k))) i (hCo f sk co (k + 1)))) 11 (upd (upd (τ 11) i (hGr f sk co gr (k))) i ((hGr f sk co gr (k)) + 0))) 20 (upd (upd (τ 20) i (hLo f sk (8 * i) (τ 7) lo (k))) i (SN (hAr f sk (8 * i) (τ 7) (k)) (8 * i) (hLo f sk (8 * i) (τ 7) lo (k)))))) rfl dX6_heat_211 (fun Hp9 lc9 Mz9 => ?_)
              refine lv_iinc (v := nI ((k + 1) + 1)) (lv' := [(5, .int (nI ((k + 1) + 1))), (0, .ref o), (1, .int (nI (i))), (2, .int (f)), (3, .int (nI (n)))]) hx hb dX6_heat_212 hl9 (k := 4) rfl (nI_add (k + 1) 1) (by decide) rfl (fun sl9 hl9 => ?_)
              refine lv_goto (tgt := 112) hx hb dX6_heat_215 (by decide) ?_
              exact ih112 (k + 1) (by omega)  _ _ _ (zM_w (by simp only [hAr, hLo, hGr, upd_same, upd_upd, add_0, if_pos c_1, if_neg c_5, if_pos c_9, if_pos c_10]) Mz9) (lv_sub hl9 [1, 2, 3, 4, 0] rfl)
            ·
              refine lv_aload_n hx hb dX6_heat_193 rfl (lv_at hl9 0 rfl) ?_
              refine z_getf Z Mz9 hin6 0 rfl rfl 11 (by decide) L37 rfl (v := .ref (ad 11)) rfl dX6_heat_194 ?_
              refine lv_iload_n hx hb dX6_heat_197 rfl (lv_at hl9 1 rfl) ?_
              refine z_iald Z Mz9 10 (h0 := ad 11) (n := 12) (f := upd (τ 11) i (hGr f sk co gr (k))) rfl (j := i) (by omega) (by decide) dX6_heat_198 ?_
              refine zn_top (y := hGr f sk co gr (k)) (upd_same _ _ _) ?_
              refine lv_sipush (v := 200) hx hb dX6_heat_199 (by decide) ?_
              refine lv_icmp_ge (tgt := 209) hx hb dX6_heat_202 (by decide) (fun c_11 => ?_) (fun c_11 => ?_)
              ·
                refine lv_iconst (v := 0) hx hb dX6_heat_209 (by decide) ?_
                refine lv_iadd hx hb dX6_heat_210 ?_
                refine z_iast Z Mz9 10 (h0 := ad 11) (n := 12) (f := upd (τ 11) i (hGr f sk co gr (k))) rfl (j := i) (x := (hGr f sk co gr (k)) + 0) (by omega) (by decide) (ws' := mW o ad T (upS (upS (upS (upS (upS τ 7 (SA (hAr f sk (8 * i) (τ 7) (k)) (8 * i))) 9 (upd (upd (τ 9) i (hSk f sk (k))) i (hSk f sk (k + 1)))) 10 (upd (upd (τ 10) i (hCo f sk co (k))) i (hCo f sk co (k + 1)))) 11 (upd (upd (τ 11) i (hGr f sk co gr (k))) i ((hGr f sk co gr (k)) + 0))) 20 (upd (upd (τ 20) i (hLo f sk (8 * i) (τ 7) lo (k))) i (SN (hAr f sk (8 * i) (τ 7) (k)) (8 * i) (hLo f sk (8 * i) (τ 7) lo (k)))))) rfl dX6_heat_211 (fun Hp9 lc9 Mz9 => ?_)
                refine lv_iinc (v := nI ((k + 1) + 1)) (lv' := [(5, .int (nI ((k + 1) + 1))), (0, .ref o), (1, .int (nI (i))), (2, .int (f)), (3, .int (nI (n)))]) hx hb dX6_heat_212 hl9 (k := 4) rfl (nI_add (k + 1) 1) (by decide) rfl (fun sl9 hl9 => ?_)
                refine lv_goto (tgt := 112) hx hb dX6_heat_215 (by decide) ?_
                exact ih112 (k + 1) (by omega)  _ _ _ (zM_w (by simp only [hAr, hLo, hGr, upd_same, upd_upd, add_0, if_pos c_1, if_neg c_5, if_pos c_9, if_neg c_10, if_neg (Int32.not_lt.mpr c_11)]) Mz9) (lv_sub hl9 [1, 2, 3, 4, 0] rfl)
              ·
                refine lv_iconst (v := 1) hx hb dX6_heat_205 (by decide) ?_
                refine lv_goto (tgt := 210) hx hb dX6_heat_206 (by decide) ?_
                refine lv_iadd hx hb dX6_heat_210 ?_
                refine z_iast Z Mz9 10 (h0 := ad 11) (n := 12) (f := upd (τ 11) i (hGr f sk co gr (k))) rfl (j := i) (x := (hGr f sk co gr (k)) + 1) (by omega) (by decide) (ws' := mW o ad T (upS (upS (upS (upS (upS τ 7 (SA (hAr f sk (8 * i) (τ 7) (k)) (8 * i))) 9 (upd (upd (τ 9) i (hSk f sk (k))) i (hSk f sk (k + 1)))) 10 (upd (upd (τ 10) i (hCo f sk co (k))) i (hCo f sk co (k + 1)))) 11 (upd (upd (τ 11) i (hGr f sk co gr (k))) i ((hGr f sk co gr (k)) + 1))) 20 (upd (upd (τ 20) i (hLo f sk (8 * i) (τ 7) lo (k))) i (SN (hAr f sk (8 * i) (τ 7) (k)) (8 * i) (hLo f sk (8 * i) (τ 7) lo (k)))))) rfl dX6_heat_211 (fun Hp9 lc9 Mz9 => ?_)
                refine lv_iinc (v := nI ((k + 1) + 1)) (lv' := [(5, .int (nI ((k + 1) + 1))), (0, .ref o), (1, .int (nI (i))), (2, .int (f)), (3, .int (nI (n)))]) hx hb dX6_heat_212 hl9 (k := 4) rfl (nI_add (k + 1) 1) (by decide) rfl (fun sl9 hl9 => ?_)
                refine lv_goto (tgt := 112) hx hb dX6_heat_215 (by decide) ?_
                exact ih112 (k + 1) (by omega)  _ _ _ (zM_w (by simp only [hAr, hLo, hGr, upd_same, upd_upd, add_0, if_pos c_1, if_neg c_5, if_pos c_9, if_neg c_10, if_pos (Int32.not_le.mp c_11)]) Mz9) (lv_sub hl9 [1, 2, 3, 4, 0] rfl)
  exact LP112_1 (n - 0) (0) (by omega)  _ _ _ (zM_w (by simp only [hSk, hCo, hAr, hLo, hGr, ← h9t, ← h10t, ← h20t, ← h11t, upd_id, upS_id]) Mz9) (lv_sub hl9 [2, 3, 4, 5, 0] rfl)
