/-! ===== laid by program ===== -/
set_option maxHeartbeats 4000000 in
set_option maxRecDepth 100000 in
theorem cb_volume (l : Launch) (D : va_G) (T : Nat → ClassId) (h a q u : Nat) (β α κ τ : Nat → Int32)  : ZI l yX0_volume wsX0_volume (zrm 0 0) D T (biW h a q u T β α κ τ) (biW h a q u T β α κ τ) [.ref h] (VO α 0) 0 0 := by
  simp only [VO_eq]
  refine z_inI (cc := cX0_volume) (maxL := 3) (rt := .int) (by decide +kernel) rfl (Nat.le_of_ble_eq_true rfl) ?_
  intro p e s m args below meth c sl9 A Q Z hnm Mz9 hl9 hret
  have Z : zC p s m args c cX0_volume 3 RX0 wsX0_volume D T A := Z
  have hx := Z.1.1
  have hb := Z.1.2.1
  have hts := Z.1.2.2.2.2
  have hin0 : ∀ w ∈ wsX00, w ∈ wsX0_volume := by decide +kernel
  have L9 := hts (.fieldLink RX0 9 "AnvilHouse$Billet" "areas" "[I") (by decide +kernel)
  have hl9 : lv_has sl9 3 [(0, .ref h)] := hl9
  refine lv_iconst (v := 0) hx hb dX0_volume_0 (by decide) ?_
  refine lv_istore_n (lv' := [(1, .int 0), (0, .ref h)]) hx hb dX0_volume_1 rfl hl9 (by decide) rfl (fun sl9 hl9 => ?_)
  refine lv_iconst (v := 0) hx hb dX0_volume_2 (by decide) ?_
  refine lv_istore_n (lv' := [(2, .int 0), (1, .int 0), (0, .ref h)]) hx hb dX0_volume_3 rfl hl9 (by decide) rfl (fun sl9 hl9 => ?_)
  have LP4_1 : ∀ (n4 k : Nat), k + n4 = 8 → ∀ (Hp9 : Heap) (lc9 : List Loc) (sl9 : Array Slot), zM D A s.heap (biW h a q u T β α κ τ) Hp9 lc9 → lv_has sl9 3 [(0, .ref h), (1, .int (vol α 0 (k))), (2, .int (nI (0 + (k))))] → W p l e (zrm 0 0) s m args below meth c Hp9 lc9 0 0 Q (F0 m 4 sl9 []) := by
    intro n4
    induction n4 with
    | zero =>
      intro k hk9 Hp9 lc9 sl9 Mz9 hl9
      obtain rfl : 8 = k := by omega
      refine lv_iload_n hx hb dX0_volume_4 rfl (lv_at hl9 2 rfl) ?_
      refine lv_bipush (v := 8) hx hb dX0_volume_5 (by decide) ?_
      refine zn_icmp_ge (a := 0 + (8)) (b := 8) (tgt := 25) (by omega) (by decide) hx hb dX0_volume_7 (by decide) (fun _ => ?_) (fun h => absurd h (by omega))
      refine lv_iload_n hx hb dX0_volume_25 rfl (lv_at hl9 1 rfl) ?_
      exact hret _ _ _ _ _ sl9 _ _ Mz9 (rfl) (rfl) (rfl) (Nat.le_refl _) (Nat.le_refl _) dX0_volume_26
    | succ n4 ih4 =>
      intro k hk9 Hp9 lc9 sl9 Mz9 hl9
      refine lv_iload_n hx hb dX0_volume_4 rfl (lv_at hl9 2 rfl) ?_
      refine lv_bipush (v := 8) hx hb dX0_volume_5 (by decide) ?_
      refine zn_icmp_ge (a := 0 + (k)) (b := 8) (tgt := 25) (by omega) (by decide) hx hb dX0_volume_7 (by decide) (fun h => absurd h (by omega)) (fun _ => ?_)
      refine lv_iload_n hx hb dX0_volume_10 rfl (lv_at hl9 1 rfl) ?_
      refine lv_aload_n hx hb dX0_volume_11 rfl (lv_at hl9 0 rfl) ?_
      refine z_getf Z Mz9 hin0 0 rfl rfl 2 (by decide) L9 rfl (v := .ref a) rfl dX0_volume_12 ?_
      refine lv_iload_n hx hb dX0_volume_15 rfl (lv_at hl9 2 rfl) ?_
      refine z_iald Z Mz9 1 (h0 := a) (n := 8) (f := α) rfl (j := 0 + (k)) (by omega) (by decide) dX0_volume_16 ?_
      refine lv_iadd hx hb dX0_volume_17 ?_
      refine lv_istore_n (lv' := [(1, .int ((vol α 0 (k)) + (α (0 + (k))))), (0, .ref h), (2, .int (nI (0 + (k))))]) hx hb dX0_volume_18 rfl hl9 (by decide) rfl (fun sl9 hl9 => ?_)
      refine lv_iinc (v := nI ((0 + (k)) + 1)) (lv' := [(2, .int (nI ((0 + (k)) + 1))), (1, .int ((vol α 0 (k)) + (α (0 + (k))))), (0, .ref h)]) hx hb dX0_volume_19 hl9 (k := 2) rfl (nI_add (0 + (k)) 1) (by decide) rfl (fun sl9 hl9 => ?_)
      refine lv_goto (tgt := 4) hx hb dX0_volume_22 (by decide) ?_
      exact ih4 (k + 1) (by omega)  _ _ _ Mz9 (lv_sub hl9 [2, 1, 0] rfl)
  exact LP4_1 (8 - 0) (0) (by omega)  _ _ _ Mz9 (lv_sub hl9 [2, 1, 0] rfl)
set_option maxHeartbeats 4000000 in
set_option maxRecDepth 100000 in
theorem cb_warmCore (l : Launch) (D : va_G) (T : Nat → ClassId) (h a q u : Nat) (β α κ τ : Nat → Int32)  : ZV l yX0_warmCore wsX0_warmCore (zrm 0 0) D T (biW h a q u T β α κ τ) (biW h a q u T (upd β 8 (wrm (β 7) (β 8))) α κ τ) [.ref h] 0 0 := by
  refine z_inV (cc := cX0_warmCore) (maxL := 1) (by decide +kernel) rfl (Nat.le_of_ble_eq_true rfl) ?_
  intro p e s m args below meth c sl9 A Q Z hnm Mz9 hl9 hret
  have Z : zC p s m args c cX0_warmCore 1 RX0 wsX0_warmCore D T A := Z
  have hx := Z.1.1
  have hb := Z.1.2.1
  have hts := Z.1.2.2.2.2
  have hin0 : ∀ w ∈ wsX00, w ∈ wsX0_warmCore := by decide +kernel
  have L19 := hts (.fieldLink RX0 19 "AnvilHouse$Billet" "core" "I") (by decide +kernel)
  have L15 := hts (.fieldLink RX0 15 "AnvilHouse$Billet" "skin" "I") (by decide +kernel)
  have hl9 : lv_has sl9 1 [(0, .ref h)] := hl9
  refine lv_aload_n hx hb dX0_warmCore_0 rfl (lv_at hl9 0 rfl) ?_
  refine lv_dup hx hb dX0_warmCore_1 rfl ?_
  refine z_getf Z Mz9 hin0 0 rfl rfl 8 (by decide) L19 rfl (v := .int (β 8)) rfl dX0_warmCore_2 ?_
  refine lv_aload_n hx hb dX0_warmCore_5 rfl (lv_at hl9 0 rfl) ?_
  refine z_getf Z Mz9 hin0 0 rfl rfl 7 (by decide) L15 rfl (v := .int (β 7)) rfl dX0_warmCore_6 ?_
  refine lv_aload_n hx hb dX0_warmCore_9 rfl (lv_at hl9 0 rfl) ?_
  refine z_getf Z Mz9 hin0 0 rfl rfl 8 (by decide) L19 rfl (v := .int (β 8)) rfl dX0_warmCore_10 ?_
  refine lv_isub hx hb dX0_warmCore_13 ?_
  refine lv_bipush (v := 6) hx hb dX0_warmCore_14 (by decide) ?_
  refine lv_idiv hx hb dX0_warmCore_16 (by decide) ?_
  refine lv_iadd hx hb dX0_warmCore_17 ?_
  refine z_putf Z Mz9 hin0 tyX0 tyX0_ok nmX0 0 rfl rfl 8 (by decide) L19 rfl rfl (ty := .int) rfl rfl rfl (Nat.le_of_ble_eq_true rfl) (ws' := biW h a q u T (upd β 8 ((β 8) + (((β 7) - (β 8)) / 6))) α κ τ) rfl dX0_warmCore_18 (fun Hp9 lc9 Mz9 => ?_)
  exact hret _ _ _ _ _ sl9 _ Mz9 (rfl) (Nat.le_refl _) (Nat.le_refl _) dX0_warmCore_21
set_option maxHeartbeats 4000000 in
set_option maxRecDepth 100000 in
theorem cb_standOutside (l : Launch) (D : va_G) (T : Nat → ClassId) (h a q u : Nat) (β α κ τ : Nat → Int32)  : ZV l yX0_standOutside wsX0_standOutside (zrm 1 20) D T (biW h a q u T β α κ τ) (biW h a q u T (upd (upd β 7 (clS (β 7))) 8 (wrm (clS (β 7)) (β 8))) α κ τ) [.ref h] 0 0 := by
  refine z_inV (cc := cX0_standOutside) (maxL := 1) (by decide +kernel) rfl (Nat.le_of_ble_eq_true rfl) ?_
  intro p e s m args below meth c sl9 A Q Z hnm Mz9 hl9 hret
  have Z : zC p s m args c cX0_standOutside 1 RX0 wsX0_standOutside D T A := Z
  have hx := Z.1.1
  have hb := Z.1.2.1
  have hts := Z.1.2.2.2.2
  have hin0 : ∀ w ∈ wsX00, w ∈ wsX0_standOutside := by decide +kernel
  have L15 := hts (.fieldLink RX0 15 "AnvilHouse$Billet" "skin" "I") (by decide +kernel)
  have hl9 : lv_has sl9 1 [(0, .ref h)] := hl9
  refine lv_aload_n hx hb dX0_standOutside_0 rfl (lv_at hl9 0 rfl) ?_
  refine lv_dup hx hb dX0_standOutside_1 rfl ?_
  refine z_getf Z Mz9 hin0 0 rfl rfl 7 (by decide) L15 rfl (v := .int (β 7)) rfl dX0_standOutside_2 ?_
  refine lv_aload_n hx hb dX0_standOutside_5 rfl (lv_at hl9 0 rfl) ?_
  refine z_getf Z Mz9 hin0 0 rfl rfl 7 (by decide) L15 rfl (v := .int (β 7)) rfl dX0_standOutside_6 ?_
  refine lv_bipush (v := 20) hx hb dX0_standOutside_9 (by decide) ?_
  refine lv_isub hx hb dX0_standOutside_11 ?_
  refine lv_bipush (v := 10) hx hb dX0_standOutside_12 (by decide) ?_
  refine lv_idiv hx hb dX0_standOutside_14 (by decide) ?_
  refine lv_isub hx hb dX0_standOutside_15 ?_
  refine z_putf Z Mz9 hin0 tyX0 tyX0_ok nmX0 0 rfl rfl 7 (by decide) L15 rfl rfl (ty := .int) rfl rfl rfl (Nat.le_of_ble_eq_true rfl) (ws' := biW h a q u T (upd β 7 ((β 7) - (((β 7) - 20) / 10))) α κ τ) rfl dX0_standOutside_16 (fun Hp9 lc9 Mz9 => ?_)
  refine lv_aload_n hx hb dX0_standOutside_19 rfl (lv_at hl9 0 rfl) ?_
  refine z_callAv (As := []) (rest := []) (wc' := biW h a q u T (upd (upd β 7 ((β 7) - (((β 7) - 20) / 10))) 8 (wrm ((β 7) - (((β 7) - 20) / 10)) (β 8))) α κ τ) Z Mz9 (cb_warmCore l D T h a q u (upd β 7 ((β 7) - (((β 7) - 20) / 10))) α κ τ) (cwV 0 hts gX0_standOutside_X0_warmCore rfl rfl rfl (by decide +kernel) ⟨by decide, by decide⟩) (va_recv Z.2.1 Mz9.1 (ci := 1) (q0 := 0) rfl rfl) rfl hl9.1 (Nat.le_of_ble_eq_true rfl) dX0_standOutside_20 ⟨by decide, by decide⟩ rfl (fun Hp9 lc9 Mz9 => ?_)
  exact hret _ _ _ _ _ sl9 _ Mz9 (rfl) (Nat.le_refl _) (Nat.le_refl _) dX0_standOutside_23
set_option maxHeartbeats 4000000 in
set_option maxRecDepth 100000 in
theorem cb_loseScale (l : Launch) (D : va_G) (T : Nat → ClassId) (h a q u : Nat) (β α κ τ : Nat → Int32)  : ZV l yX0_loseScale wsX0_loseScale (zrm 0 0) D T (biW h a q u T β α κ τ) (biW h a q u T (upd β 4 (SN α 0 (β 4))) (SA α 0) κ τ) [.ref h] 0 0 := by
  simp only [SA_eq, SN_eq]
  refine z_inV (cc := cX0_loseScale) (maxL := 2) (by decide +kernel) rfl (Nat.le_of_ble_eq_true rfl) ?_
  intro p e s m args below meth c sl9 A Q Z hnm Mz9 hl9 hret
  have Z : zC p s m args c cX0_loseScale 2 RX0 wsX0_loseScale D T A := Z
  have hx := Z.1.1
  have hb := Z.1.2.1
  have hts := Z.1.2.2.2.2
  have hin0 : ∀ w ∈ wsX00, w ∈ wsX0_loseScale := by decide +kernel
  have L9 := hts (.fieldLink RX0 9 "AnvilHouse$Billet" "areas" "[I") (by decide +kernel)
  have L72 := hts (.fieldLink RX0 72 "AnvilHouse$Billet" "scale" "I") (by decide +kernel)
  have hl9 : lv_has sl9 2 [(0, .ref h)] := hl9
  refine lv_iconst (v := 0) hx hb dX0_loseScale_0 (by decide) ?_
  refine lv_istore_n (lv' := [(1, .int 0), (0, .ref h)]) hx hb dX0_loseScale_1 rfl hl9 (by decide) rfl (fun sl9 hl9 => ?_)
  have LP2_1 : ∀ (n2 k : Nat), k + n2 = 8 → ∀ (Hp9 : Heap) (lc9 : List Loc) (sl9 : Array Slot), zM D A s.heap (biW h a q u T (upd β 4 (sclN α 0 (β 4) (k))) (sclA α 0 (k)) κ τ) Hp9 lc9 → lv_has sl9 2 [(0, .ref h), (1, .int (nI (0 + (k))))] → W p l e (zrm 0 0) s m args below meth c Hp9 lc9 0 0 Q (F0 m 2 sl9 []) := by
    intro n2
    induction n2 with
    | zero =>
      intro k hk9 Hp9 lc9 sl9 Mz9 hl9
      obtain rfl : 8 = k := by omega
      refine lv_iload_n hx hb dX0_loseScale_2 rfl (lv_at hl9 1 rfl) ?_
      refine lv_bipush (v := 8) hx hb dX0_loseScale_3 (by decide) ?_
      refine zn_icmp_ge (a := 0 + (8)) (b := 8) (tgt := 44) (by omega) (by decide) hx hb dX0_loseScale_5 (by decide) (fun _ => ?_) (fun h => absurd h (by omega))
      exact hret _ _ _ _ _ sl9 _ Mz9 (rfl) (Nat.le_refl _) (Nat.le_refl _) dX0_loseScale_44
    | succ n2 ih2 =>
      intro k hk9 Hp9 lc9 sl9 Mz9 hl9
      refine lv_iload_n hx hb dX0_loseScale_2 rfl (lv_at hl9 1 rfl) ?_
      refine lv_bipush (v := 8) hx hb dX0_loseScale_3 (by decide) ?_
      refine zn_icmp_ge (a := 0 + (k)) (b := 8) (tgt := 44) (by omega) (by decide) hx hb dX0_loseScale_5 (by decide) (fun h => absurd h (by omega)) (fun _ => ?_)
      refine lv_aload_n hx hb dX0_loseScale_8 rfl (lv_at hl9 0 rfl) ?_
      refine z_getf Z Mz9 hin0 0 rfl rfl 2 (by decide) L9 rfl (v := .ref a) rfl dX0_loseScale_9 ?_
      refine lv_iload_n hx hb dX0_loseScale_12 rfl (lv_at hl9 1 rfl) ?_
      refine z_iald Z Mz9 1 (h0 := a) (n := 8) (f := sclA α 0 (k)) rfl (j := 0 + (k)) (by omega) (by decide) dX0_loseScale_13 ?_
      refine lv_iconst (v := 1) hx hb dX0_loseScale_14 (by decide) ?_
      refine lv_icmp_le (tgt := 38) hx hb dX0_loseScale_15 (by decide) (fun c_1 => ?_) (fun c_1 => ?_)
      ·
        refine lv_iinc (v := nI ((0 + (k)) + 1)) (lv' := [(1, .int (nI ((0 + (k)) + 1))), (0, .ref h)]) hx hb dX0_loseScale_38 hl9 (k := 1) rfl (nI_add (0 + (k)) 1) (by decide) rfl (fun sl9 hl9 => ?_)
        refine lv_goto (tgt := 2) hx hb dX0_loseScale_41 (by decide) ?_
        exact ih2 (k + 1) (by omega)  _ _ _ (zM_w (by simp only [sclA, sclN, upd_upd, upd_same, if_neg (Int32.not_lt.mpr c_1)]) Mz9) (lv_sub hl9 [1, 0] rfl)
      ·
        refine lv_aload_n hx hb dX0_loseScale_18 rfl (lv_at hl9 0 rfl) ?_
        refine z_getf Z Mz9 hin0 0 rfl rfl 2 (by decide) L9 rfl (v := .ref a) rfl dX0_loseScale_19 ?_
        refine lv_iload_n hx hb dX0_loseScale_22 rfl (lv_at hl9 1 rfl) ?_
        refine lv_dup2_11 hx hb dX0_loseScale_23 rfl rfl ?_
        refine z_iald Z Mz9 1 (h0 := a) (n := 8) (f := sclA α 0 (k)) rfl (j := 0 + (k)) (by omega) (by decide) dX0_loseScale_24 ?_
        refine lv_iconst (v := 1) hx hb dX0_loseScale_25 (by decide) ?_
        refine lv_isub hx hb dX0_loseScale_26 ?_
        refine z_iast Z Mz9 1 (h0 := a) (n := 8) (f := sclA α 0 (k)) rfl (j := 0 + (k)) (x := ((sclA α 0 (k)) (0 + (k))) - 1) (by omega) (by decide) (ws' := biW h a q u T (upd β 4 (sclN α 0 (β 4) (k))) (upd (sclA α 0 (k)) (0 + (k)) (((sclA α 0 (k)) (0 + (k))) - 1)) κ τ) rfl dX0_loseScale_27 (fun Hp9 lc9 Mz9 => ?_)
        refine lv_aload_n hx hb dX0_loseScale_28 rfl (lv_at hl9 0 rfl) ?_
        refine lv_dup hx hb dX0_loseScale_29 rfl ?_
        refine z_getf Z Mz9 hin0 0 rfl rfl 4 (by decide) L72 rfl (v := .int (sclN α 0 (β 4) (k))) rfl dX0_loseScale_30 ?_
        refine lv_iconst (v := 1) hx hb dX0_loseScale_33 (by decide) ?_
        refine lv_iadd hx hb dX0_loseScale_34 ?_
        refine z_putf Z Mz9 hin0 tyX0 tyX0_ok nmX0 0 rfl rfl 4 (by decide) L72 rfl rfl (ty := .int) rfl rfl rfl (Nat.le_of_ble_eq_true rfl) (ws' := biW h a q u T (upd β 4 ((sclN α 0 (β 4) (k)) + 1)) (upd (sclA α 0 (k)) (0 + (k)) (((sclA α 0 (k)) (0 + (k))) - 1)) κ τ) rfl dX0_loseScale_35 (fun Hp9 lc9 Mz9 => ?_)
        refine lv_iinc (v := nI ((0 + (k)) + 1)) (lv' := [(1, .int (nI ((0 + (k)) + 1))), (0, .ref h)]) hx hb dX0_loseScale_38 hl9 (k := 1) rfl (nI_add (0 + (k)) 1) (by decide) rfl (fun sl9 hl9 => ?_)
        refine lv_goto (tgt := 2) hx hb dX0_loseScale_41 (by decide) ?_
        exact ih2 (k + 1) (by omega)  _ _ _ (zM_w (by simp only [sclA, sclN, upd_upd, upd_same, if_pos (Int32.not_le.mp c_1)]) Mz9) (lv_sub hl9 [1, 0] rfl)
  exact LP2_1 (8 - 0) (0) (by omega)  _ _ _ (zM_w (by simp only [sclA, sclN, upd_id]) Mz9) (lv_sub hl9 [1, 0] rfl)
