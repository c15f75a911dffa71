/-! ===== laid by program ===== -/
set_option maxHeartbeats 4000000 in
set_option maxRecDepth 100000 in
theorem cb_wayTo (l : Launch) (D : va_G) (T : Nat → ClassId) (pl pa : Nat) (ω : Nat → Int32) (wt fu : Int32) (x : Int32) : ZI l yX3_wayTo wsX3_wayTo (zrm 1 21) D T (plW pl pa T ω wt fu) (plW pl pa T ω wt fu) [.ref pl, .int (x)] (absd (x - fu)) 0 0 := by
  refine z_inI (cc := cX3_wayTo) (maxL := 2) (rt := .int) (by decide +kernel) rfl (Nat.le_of_ble_eq_true rfl) ?_
  intro p e s m args below meth c sl9 A Q Z hnm Mz9 hl9 hret
  have Z : zC p s m args c cX3_wayTo 2 RX3 wsX3_wayTo D T A := Z
  have hx := Z.1.1
  have hb := Z.1.2.1
  have hts := Z.1.2.2.2.2
  have hin3 : ∀ w ∈ wsX30, w ∈ wsX3_wayTo := by decide +kernel
  have L15 := hts (.fieldLink RX3 15 "AnvilHouse$Plan" "furnace" "I") (by decide +kernel)
  have hl9 : lv_has sl9 2 [(0, .ref pl), (1, .int (x))] := hl9
  refine lv_iload_n hx hb dX3_wayTo_0 rfl (lv_at hl9 1 rfl) ?_
  refine lv_aload_n hx hb dX3_wayTo_1 rfl (lv_at hl9 0 rfl) ?_
  refine z_getf Z Mz9 hin3 0 rfl rfl 2 (by decide) L15 rfl (v := .int (fu)) rfl dX3_wayTo_2 ?_
  refine lv_isub hx hb dX3_wayTo_5 ?_
  refine va_mabs hx hb (Z.1.2.2.1.trans hl9.1.symm) Z.1.2.2.2.1 (hts (.methodLink RX3 30 Lib.Math.abs.name) (by decide +kernel)) (hts (.static Lib.Math.abs.name) (by decide +kernel)) (hts (.initialized "java/lang/Math") (by decide +kernel)) (hts (.code Lib.Math.abs.name Lib.Math.abs.code 1 (some .int)) (by decide +kernel)) (Nat.le_of_ble_eq_true rfl) (Nat.le_of_ble_eq_true rfl) (Nat.zero_le _) (Nat.zero_le _) dX3_wayTo_6 ?_
  refine zn_top (y := absd (x - fu)) rfl ?_
  exact hret _ _ _ _ _ sl9 _ _ Mz9 (rfl) (rfl) (rfl) (Nat.le_refl _) (Nat.le_refl _) dX3_wayTo_9
set_option maxHeartbeats 4000000 in
set_option maxRecDepth 100000 in
theorem cb_falls (l : Launch) (D : va_G) (T : Nat → ClassId) (pl pa : Nat) (ω : Nat → Int32) (wt fu : Int32) (nj : Nat) (hnj : nj ≤ 12) (hwt : wt = nI nj) (h0 : 0 < nj) : ZI l yX3_falls wsX3_falls (zrm 2 42) D T (plW pl pa T ω wt fu) (plW pl pa T ω wt fu) [.ref pl] (plF ω nj fu) 0 0 := by
  refine z_inI (cc := cX3_falls) (maxL := 1) (rt := .boolean) (by decide +kernel) rfl (Nat.le_of_ble_eq_true rfl) ?_
  intro p e s m args below meth c sl9 A Q Z hnm Mz9 hl9 hret
  have Z : zC p s m args c cX3_falls 1 RX3 wsX3_falls D T A := Z
  have hx := Z.1.1
  have hb := Z.1.2.1
  have hts := Z.1.2.2.2.2
  have hin3 : ∀ w ∈ wsX30, w ∈ wsX3_falls := by decide +kernel
  have L9 := hts (.fieldLink RX3 9 "AnvilHouse$Plan" "warmths" "[I") (by decide +kernel)
  have L19 := hts (.fieldLink RX3 19 "AnvilHouse$Plan" "waiting" "I") (by decide +kernel)
  have hl9 : lv_has sl9 1 [(0, .ref pl)] := hl9
  refine lv_aload_n hx hb dX3_falls_0 rfl (lv_at hl9 0 rfl) ?_
  refine lv_aload_n hx hb dX3_falls_1 rfl (lv_at hl9 0 rfl) ?_
  refine z_getf Z Mz9 hin3 0 rfl rfl 0 (by decide) L9 rfl (v := .ref pa) rfl dX3_falls_2 ?_
  refine lv_aload_n hx hb dX3_falls_5 rfl (lv_at hl9 0 rfl) ?_
  refine z_getf Z Mz9 hin3 0 rfl rfl 1 (by decide) L19 rfl (v := .int (wt)) rfl dX3_falls_6 ?_
  refine zn_top (y := nI (nj)) (hwt) ?_
  refine lv_iconst (v := 1) hx hb dX3_falls_9 (by decide) ?_
  refine zn_isub (a := nj) (b := 1) (by omega) hx hb dX3_falls_10 ?_
  refine z_iald Z Mz9 1 (h0 := pa) (n := 12) (f := ω) rfl (j := nj - 1) (by omega) (by decide) dX3_falls_11 ?_
  refine z_callAi (As := [.int (ω (nj - 1))]) (rest := []) (rv := absd ((ω (nj - 1)) - fu)) (wc' := plW pl pa T ω wt fu) Z Mz9 (cb_wayTo l D T pl pa ω wt fu (ω (nj - 1))) (cwV 1 hts gX3_falls_X3_wayTo rfl rfl rfl (by decide +kernel) ⟨by decide, by decide⟩) (va_recv Z.2.1 Mz9.1 (ci := 4) (q0 := 0) rfl rfl) rfl hl9.1 (Nat.le_of_ble_eq_true rfl) dX3_falls_12 ⟨by decide, by decide⟩ rfl (fun Hp9 lc9 Mz9 => ?_)
  refine lv_aload_n hx hb dX3_falls_15 rfl (lv_at hl9 0 rfl) ?_
  refine lv_aload_n hx hb dX3_falls_16 rfl (lv_at hl9 0 rfl) ?_
  refine z_getf Z Mz9 hin3 0 rfl rfl 0 (by decide) L9 rfl (v := .ref pa) rfl dX3_falls_17 ?_
  refine lv_iconst (v := 0) hx hb dX3_falls_20 (by decide) ?_
  refine z_iald Z Mz9 1 (h0 := pa) (n := 12) (f := ω) rfl (j := 0) (by omega) (by decide) dX3_falls_21 ?_
  refine z_callAi (As := [.int (ω 0)]) (rest := [.int (absd ((ω (nj - 1)) - fu))]) (rv := absd ((ω 0) - fu)) (wc' := plW pl pa T ω wt fu) Z Mz9 (cb_wayTo l D T pl pa ω wt fu (ω 0)) (cwV 1 hts gX3_falls_X3_wayTo rfl rfl rfl (by decide +kernel) ⟨by decide, by decide⟩) (va_recv Z.2.1 Mz9.1 (ci := 4) (q0 := 0) rfl rfl) rfl hl9.1 (Nat.le_of_ble_eq_true rfl) dX3_falls_22 ⟨by decide, by decide⟩ rfl (fun Hp9 lc9 Mz9 => ?_)
  refine lv_icmp_ge (tgt := 32) hx hb dX3_falls_25 (by decide) (fun c_1 => ?_) (fun c_1 => ?_)
  ·
    refine lv_iconst (v := 0) hx hb dX3_falls_32 (by decide) ?_
    exact hret _ _ _ _ _ sl9 _ _ Mz9 (rfl) (by simp only [plF, if_neg (Int32.not_lt.mpr c_1)]) (rfl) (Nat.le_refl _) (Nat.le_refl _) dX3_falls_33
  ·
    refine lv_iconst (v := 1) hx hb dX3_falls_28 (by decide) ?_
    refine lv_goto (tgt := 33) hx hb dX3_falls_29 (by decide) ?_
    exact hret _ _ _ _ _ sl9 _ _ Mz9 (rfl) (by simp only [plF, if_pos (Int32.not_le.mp c_1)]) (rfl) (Nat.le_refl _) (Nat.le_refl _) dX3_falls_33
set_option maxHeartbeats 4000000 in
set_option maxRecDepth 100000 in
theorem cb_warmthAt (l : Launch) (D : va_G) (T : Nat → ClassId) (pl pa : Nat) (ω : Nat → Int32) (wt fu : Int32) (nj : Nat) (hnj : nj ≤ 12) (hwt : wt = nI nj) (x : Nat) (h0 : 0 < nj) (hx9 : x < nj) : ZI l yX3_warmthAt wsX3_warmthAt (zrm 3 62) D T (plW pl pa T ω wt fu) (plW pl pa T ω wt fu) [.ref pl, .int (nI (x))] (plA ω nj fu x) 0 0 := by
  refine z_inI (cc := cX3_warmthAt) (maxL := 2) (rt := .int) (by decide +kernel) rfl (Nat.le_of_ble_eq_true rfl) ?_
  intro p e s m args below meth c sl9 A Q Z hnm Mz9 hl9 hret
  have Z : zC p s m args c cX3_warmthAt 2 RX3 wsX3_warmthAt D T A := Z
  have hx := Z.1.1
  have hb := Z.1.2.1
  have hts := Z.1.2.2.2.2
  have hin3 : ∀ w ∈ wsX30, w ∈ wsX3_warmthAt := by decide +kernel
  have L19 := hts (.fieldLink RX3 19 "AnvilHouse$Plan" "waiting" "I") (by decide +kernel)
  have L9 := hts (.fieldLink RX3 9 "AnvilHouse$Plan" "warmths" "[I") (by decide +kernel)
  have hl9 : lv_has sl9 2 [(0, .ref pl), (1, .int (nI (x)))] := hl9
  refine lv_iload_n hx hb dX3_warmthAt_0 rfl (lv_at hl9 1 rfl) ?_
  refine zn_if_lt (a := x) (tgt := 12) (by omega) hx hb dX3_warmthAt_1 (by decide) (fun h => absurd h (fun h => h)) (fun _ => ?_)
  refine lv_iload_n hx hb dX3_warmthAt_4 rfl (lv_at hl9 1 rfl) ?_
  refine lv_aload_n hx hb dX3_warmthAt_5 rfl (lv_at hl9 0 rfl) ?_
  refine z_getf Z Mz9 hin3 0 rfl rfl 1 (by decide) L19 rfl (v := .int (wt)) rfl dX3_warmthAt_6 ?_
  refine zn_top (y := nI (nj)) (hwt) ?_
  refine zn_icmp_lt (a := x) (b := nj) (tgt := 14) (by omega) (by omega) hx hb dX3_warmthAt_9 (by decide) (fun _ => ?_) (fun h => absurd h (by omega))
  refine lv_aload_n hx hb dX3_warmthAt_14 rfl (lv_at hl9 0 rfl) ?_
  refine z_callAi (As := []) (rest := []) (rv := plF ω nj fu) (wc' := plW pl pa T ω wt fu) Z Mz9 (cb_falls l D T pl pa ω wt fu nj hnj hwt (by omega)) (cwV 0 hts gX3_warmthAt_X3_falls rfl rfl rfl (by decide +kernel) ⟨by decide, by decide⟩) (va_recv Z.2.1 Mz9.1 (ci := 4) (q0 := 0) rfl rfl) rfl hl9.1 (Nat.le_of_ble_eq_true rfl) dX3_warmthAt_15 ⟨by decide, by decide⟩ rfl (fun Hp9 lc9 Mz9 => ?_)
  refine lv_if_eq (tgt := 37) hx hb dX3_warmthAt_18 (by decide) (fun c_1 => ?_) (fun c_1 => ?_)
  ·
    refine lv_aload_n hx hb dX3_warmthAt_37 rfl (lv_at hl9 0 rfl) ?_
    refine z_getf Z Mz9 hin3 0 rfl rfl 0 (by decide) L9 rfl (v := .ref pa) rfl dX3_warmthAt_38 ?_
    refine lv_iload_n hx hb dX3_warmthAt_41 rfl (lv_at hl9 1 rfl) ?_
    refine z_iald Z Mz9 1 (h0 := pa) (n := 12) (f := ω) rfl (j := x) (by omega) (by decide) dX3_warmthAt_42 ?_
    exact hret _ _ _ _ _ sl9 _ _ Mz9 (rfl) (by simp only [plA, if_pos c_1]) (rfl) (Nat.le_refl _) (Nat.le_refl _) dX3_warmthAt_43
  ·
    refine lv_aload_n hx hb dX3_warmthAt_21 rfl (lv_at hl9 0 rfl) ?_
    refine z_getf Z Mz9 hin3 0 rfl rfl 0 (by decide) L9 rfl (v := .ref pa) rfl dX3_warmthAt_22 ?_
    refine lv_aload_n hx hb dX3_warmthAt_25 rfl (lv_at hl9 0 rfl) ?_
    refine z_getf Z Mz9 hin3 0 rfl rfl 1 (by decide) L19 rfl (v := .int (wt)) rfl dX3_warmthAt_26 ?_
    refine zn_top (y := nI (nj)) (hwt) ?_
    refine lv_iconst (v := 1) hx hb dX3_warmthAt_29 (by decide) ?_
    refine zn_isub (a := nj) (b := 1) (by omega) hx hb dX3_warmthAt_30 ?_
    refine lv_iload_n hx hb dX3_warmthAt_31 rfl (lv_at hl9 1 rfl) ?_
    refine zn_isub (a := nj - 1) (b := x) (by omega) hx hb dX3_warmthAt_32 ?_
    refine z_iald Z Mz9 1 (h0 := pa) (n := 12) (f := ω) rfl (j := (nj - 1) - x) (by omega) (by decide) dX3_warmthAt_33 ?_
    refine lv_goto (tgt := 43) hx hb dX3_warmthAt_34 (by decide) ?_
    exact hret _ _ _ _ _ sl9 _ _ Mz9 (rfl) (by simp only [plA, if_neg c_1]) (rfl) (Nat.le_refl _) (Nat.le_refl _) dX3_warmthAt_43
set_option maxHeartbeats 4000000 in
set_option maxRecDepth 100000 in
theorem cb_warmthAt_none (l : Launch) (D : va_G) (T : Nat → ClassId) (pl pa : Nat) (ω : Nat → Int32) (wt fu : Int32) (nj : Nat) (hnj : nj ≤ 12) (hwt : wt = nI nj) (x : Nat) (hx9 : nj ≤ x) (hx8 : x < 2 ^ 31) : ZI l yX3_warmthAt wsX3_warmthAt (zrm 3 62) D T (plW pl pa T ω wt fu) (plW pl pa T ω wt fu) [.ref pl, .int (nI (x))] (-1) 0 0 := by
  refine z_inI (cc := cX3_warmthAt) (maxL := 2) (rt := .int) (by decide +kernel) rfl (Nat.le_of_ble_eq_true rfl) ?_
  intro p e s m args below meth c sl9 A Q Z hnm Mz9 hl9 hret
  have Z : zC p s m args c cX3_warmthAt 2 RX3 wsX3_warmthAt D T A := Z
  have hx := Z.1.1
  have hb := Z.1.2.1
  have hts := Z.1.2.2.2.2
  have hin3 : ∀ w ∈ wsX30, w ∈ wsX3_warmthAt := by decide +kernel
  have L19 := hts (.fieldLink RX3 19 "AnvilHouse$Plan" "waiting" "I") (by decide +kernel)
  have L9 := hts (.fieldLink RX3 9 "AnvilHouse$Plan" "warmths" "[I") (by decide +kernel)
  have hl9 : lv_has sl9 2 [(0, .ref pl), (1, .int (nI (x)))] := hl9
  refine lv_iload_n hx hb dX3_warmthAt_0 rfl (lv_at hl9 1 rfl) ?_
  refine zn_if_lt (a := x) (tgt := 12) (by omega) hx hb dX3_warmthAt_1 (by decide) (fun h => absurd h (fun h => h)) (fun _ => ?_)
  refine lv_iload_n hx hb dX3_warmthAt_4 rfl (lv_at hl9 1 rfl) ?_
  refine lv_aload_n hx hb dX3_warmthAt_5 rfl (lv_at hl9 0 rfl) ?_
  refine z_getf Z Mz9 hin3 0 rfl rfl 1 (by decide) L19 rfl (v := .int (wt)) rfl dX3_warmthAt_6 ?_
  refine zn_top (y := nI (nj)) (hwt) ?_
  refine zn_icmp_lt (a := x) (b := nj) (tgt := 14) (by omega) (by omega) hx hb dX3_warmthAt_9 (by decide) (fun h => absurd h (by omega)) (fun _ => ?_)
  refine lv_iconst (v := (-1)) hx hb dX3_warmthAt_12 (by decide) ?_
  exact hret _ _ _ _ _ sl9 _ _ Mz9 (rfl) (rfl) (rfl) (Nat.le_refl _) (Nat.le_refl _) dX3_warmthAt_13
set_option maxHeartbeats 4000000 in
set_option maxRecDepth 100000 in
theorem cb_add (l : Launch) (D : va_G) (T : Nat → ClassId) (pl pa : Nat) (ω : Nat → Int32) (wt fu : Int32) (nj : Nat) (hnj : nj < 12) (hwt : wt = nI nj) (w9 : Int32) : ZV l yX3_add wsX3_add (zrm 0 0) D T (plW pl pa T ω wt fu) (plW pl pa T (ins ω w9 nj) (nI (nj + 1)) fu) [.ref pl, .int (w9)] 0 0 := by
  refine z_inV (cc := cX3_add) (maxL := 3) (by decide +kernel) rfl (Nat.le_of_ble_eq_true rfl) ?_
  intro p e s m args below meth c sl9 A Q Z hnm Mz9 hl9 hret
  have Z : zC p s m args c cX3_add 3 RX3 wsX3_add D T A := Z
  have hx := Z.1.1
  have hb := Z.1.2.1
  have hts := Z.1.2.2.2.2
  have hin3 : ∀ w ∈ wsX30, w ∈ wsX3_add := by decide +kernel
  have L19 := hts (.fieldLink RX3 19 "AnvilHouse$Plan" "waiting" "I") (by decide +kernel)
  have L9 := hts (.fieldLink RX3 9 "AnvilHouse$Plan" "warmths" "[I") (by decide +kernel)
  have hl9 : lv_has sl9 3 [(0, .ref pl), (1, .int (w9))] := hl9
  refine lv_aload_n hx hb dX3_add_0 rfl (lv_at hl9 0 rfl) ?_
  refine z_getf Z Mz9 hin3 0 rfl rfl 1 (by decide) L19 rfl (v := .int (wt)) rfl dX3_add_1 ?_
  refine zn_top (y := nI (nj)) (hwt) ?_
  refine lv_bipush (v := 12) hx hb dX3_add_4 (by decide) ?_
  refine zn_icmp_lt (a := nj) (b := 12) (tgt := 10) (by omega) (by decide) hx hb dX3_add_6 (by decide) (fun _ => ?_) (fun h => absurd h (by omega))
  refine lv_aload_n hx hb dX3_add_10 rfl (lv_at hl9 0 rfl) ?_
  refine z_getf Z Mz9 hin3 0 rfl rfl 1 (by decide) L19 rfl (v := .int (wt)) rfl dX3_add_11 ?_
  refine zn_top (y := nI (nj)) (hwt) ?_
  refine lv_istore_n (lv' := [(2, .int (nI (nj))), (0, .ref pl), (1, .int (w9))]) hx hb dX3_add_14 rfl hl9 (by decide) rfl (fun sl9 hl9 => ?_)
  have LP15_1 : ∀ (k : Nat) (f9 : Nat → Int32), k ≤ nj → ins ω w9 nj = ins f9 w9 (k) → ∀ (Hp9 : Heap) (lc9 : List Loc) (sl9 : Array Slot), zM D A s.heap (plW pl pa T f9 wt fu) Hp9 lc9 → lv_has sl9 3 [(0, .ref pl), (1, .int (w9)), (2, .int (nI (k)))] → W p l e (zrm 0 0) s m args below meth c Hp9 lc9 0 0 Q (F0 m 15 sl9 []) := by
    intro k
    induction k with
    | zero =>
      intro f9 h90 h91 Hp9 lc9 sl9 Mz9 hl9
      refine lv_iload_n hx hb dX3_add_15 rfl (lv_at hl9 2 rfl) ?_
      refine zn_if_le (a := 0) (tgt := 51) (by omega) hx hb dX3_add_16 (by decide) (fun _ => ?_) (fun h => absurd h (by decide))
      refine lv_aload_n hx hb dX3_add_51 rfl (lv_at hl9 0 rfl) ?_
      refine z_getf Z Mz9 hin3 0 rfl rfl 0 (by decide) L9 rfl (v := .ref pa) rfl dX3_add_52 ?_
      refine lv_iload_n hx hb dX3_add_55 rfl (lv_at hl9 2 rfl) ?_
      refine lv_iload_n hx hb dX3_add_56 rfl (lv_at hl9 1 rfl) ?_
      refine z_iast Z Mz9 1 (h0 := pa) (n := 12) (f := f9) rfl (j := 0) (x := w9) (by omega) (by decide) (ws' := plW pl pa T (upd f9 0 w9) wt fu) rfl dX3_add_57 (fun Hp9 lc9 Mz9 => ?_)
      refine lv_aload_n hx hb dX3_add_58 rfl (lv_at hl9 0 rfl) ?_
      refine lv_dup hx hb dX3_add_59 rfl ?_
      refine z_getf Z Mz9 hin3 0 rfl rfl 1 (by decide) L19 rfl (v := .int (wt)) rfl dX3_add_60 ?_
      refine zn_top (y := nI (nj)) (hwt) ?_
      refine lv_iconst (v := 1) hx hb dX3_add_63 (by decide) ?_
      refine zn_iadd (a := nj) (b := 1) hx hb dX3_add_64 ?_
      refine z_putf Z Mz9 hin3 tyX3 tyX3_ok nmX3 0 rfl rfl 1 (by decide) L19 rfl rfl (ty := .int) rfl rfl rfl (Nat.le_of_ble_eq_true rfl) (ws' := plW pl pa T (upd f9 0 w9) (nI (nj + 1)) fu) rfl dX3_add_65 (fun Hp9 lc9 Mz9 => ?_)
      exact hret _ _ _ _ _ sl9 _ Mz9 (by rw [h91]; rfl) (Nat.le_refl _) (Nat.le_refl _) dX3_add_68
    | succ k ih15 =>
      intro f9 h90 h91 Hp9 lc9 sl9 Mz9 hl9
      refine lv_iload_n hx hb dX3_add_15 rfl (lv_at hl9 2 rfl) ?_
      refine zn_if_le (a := k + 1) (tgt := 51) (by omega) hx hb dX3_add_16 (by decide) (fun h => absurd h (by omega)) (fun _ => ?_)
      refine lv_aload_n hx hb dX3_add_19 rfl (lv_at hl9 0 rfl) ?_
      refine z_getf Z Mz9 hin3 0 rfl rfl 0 (by decide) L9 rfl (v := .ref pa) rfl dX3_add_20 ?_
      refine lv_iload_n hx hb dX3_add_23 rfl (lv_at hl9 2 rfl) ?_
      refine lv_iconst (v := 1) hx hb dX3_add_24 (by decide) ?_
      refine zn_isub (a := k + 1) (b := 1) (by omega) hx hb dX3_add_25 ?_
      refine z_iald Z Mz9 1 (h0 := pa) (n := 12) (f := f9) rfl (j := k) (by omega) (by decide) dX3_add_26 ?_
      refine lv_iload_n hx hb dX3_add_27 rfl (lv_at hl9 1 rfl) ?_
      refine lv_icmp_le (tgt := 51) hx hb dX3_add_28 (by decide) (fun c_1 => ?_) (fun c_1 => ?_)
      ·
        refine lv_aload_n hx hb dX3_add_51 rfl (lv_at hl9 0 rfl) ?_
        refine z_getf Z Mz9 hin3 0 rfl rfl 0 (by decide) L9 rfl (v := .ref pa) rfl dX3_add_52 ?_
        refine lv_iload_n hx hb dX3_add_55 rfl (lv_at hl9 2 rfl) ?_
        refine lv_iload_n hx hb dX3_add_56 rfl (lv_at hl9 1 rfl) ?_
        refine z_iast Z Mz9 1 (h0 := pa) (n := 12) (f := f9) rfl (j := k + 1) (x := w9) (by omega) (by decide) (ws' := plW pl pa T (upd f9 (k + 1) w9) wt fu) rfl dX3_add_57 (fun Hp9 lc9 Mz9 => ?_)
        refine lv_aload_n hx hb dX3_add_58 rfl (lv_at hl9 0 rfl) ?_
        refine lv_dup hx hb dX3_add_59 rfl ?_
        refine z_getf Z Mz9 hin3 0 rfl rfl 1 (by decide) L19 rfl (v := .int (wt)) rfl dX3_add_60 ?_
        refine zn_top (y := nI (nj)) (hwt) ?_
        refine lv_iconst (v := 1) hx hb dX3_add_63 (by decide) ?_
        refine zn_iadd (a := nj) (b := 1) hx hb dX3_add_64 ?_
        refine z_putf Z Mz9 hin3 tyX3 tyX3_ok nmX3 0 rfl rfl 1 (by decide) L19 rfl rfl (ty := .int) rfl rfl rfl (Nat.le_of_ble_eq_true rfl) (ws' := plW pl pa T (upd f9 (k + 1) w9) (nI (nj + 1)) fu) rfl dX3_add_65 (fun Hp9 lc9 Mz9 => ?_)
        exact hret _ _ _ _ _ sl9 _ Mz9 (by rw [h91]; simp only [ins, if_neg (Int32.not_lt.mpr c_1)] <;> rfl) (Nat.le_refl _) (Nat.le_refl _) dX3_add_68
      ·
        refine lv_aload_n hx hb dX3_add_31 rfl (lv_at hl9 0 rfl) ?_
        refine z_getf Z Mz9 hin3 0 rfl rfl 0 (by decide) L9 rfl (v := .ref pa) rfl dX3_add_32 ?_
        refine lv_iload_n hx hb dX3_add_35 rfl (lv_at hl9 2 rfl) ?_
        refine lv_aload_n hx hb dX3_add_36 rfl (lv_at hl9 0 rfl) ?_
        refine z_getf Z Mz9 hin3 0 rfl rfl 0 (by decide) L9 rfl (v := .ref pa) rfl dX3_add_37 ?_
        refine lv_iload_n hx hb dX3_add_40 rfl (lv_at hl9 2 rfl) ?_
        refine lv_iconst (v := 1) hx hb dX3_add_41 (by decide) ?_
        refine zn_isub (a := k + 1) (b := 1) (by omega) hx hb dX3_add_42 ?_
        refine z_iald Z Mz9 1 (h0 := pa) (n := 12) (f := f9) rfl (j := k) (by omega) (by decide) dX3_add_43 ?_
        refine z_iast Z Mz9 1 (h0 := pa) (n := 12) (f := f9) rfl (j := k + 1) (x := f9 k) (by omega) (by decide) (ws' := plW pl pa T (upd f9 (k + 1) (f9 k)) wt fu) rfl dX3_add_44 (fun Hp9 lc9 Mz9 => ?_)
        refine lv_iinc (v := nI (k)) (lv' := [(2, .int (nI (k))), (0, .ref pl), (1, .int (w9))]) hx hb dX3_add_45 hl9 (k := 2) rfl (z_pred (by omega)) (by decide) rfl (fun sl9 hl9 => ?_)
        refine lv_goto (tgt := 15) hx hb dX3_add_48 (by decide) ?_
        exact ih15 (upd f9 (k + 1) (f9 k)) (by omega) (by rw [h91, ins]; simp only [if_pos (Int32.not_le.mp c_1)]) _ _ _ Mz9 (lv_sub hl9 [1, 2, 0] rfl)
  exact LP15_1 nj ω (Nat.le_refl _) (rfl) _ _ _ Mz9 (lv_sub hl9 [1, 2, 0] rfl)
set_option maxHeartbeats 4000000 in
set_option maxRecDepth 100000 in
theorem cb_carryOut_0 (l : Launch) (D : va_G) (T : Nat → ClassId) (pl pa : Nat) (ω : Nat → Int32) (wt fu : Int32) (hwt : wt = nI 0) : ZI l yX3_carryOut wsX3_carryOut (zrm 4 83) D T (plW pl pa T ω wt fu) (plW pl pa T ω wt fu) [.ref pl] (0) 0 0 := by
  refine z_inI (cc := cX3_carryOut) (maxL := 4) (rt := .int) (by decide +kernel) rfl (Nat.le_of_ble_eq_true rfl) ?_
  intro p e s m args below meth c sl9 A Q Z hnm Mz9 hl9 hret
  have Z : zC p s m args c cX3_carryOut 4 RX3 wsX3_carryOut D T A := Z
  have hx := Z.1.1
  have hb := Z.1.2.1
  have hts := Z.1.2.2.2.2
  have hin3 : ∀ w ∈ wsX30, w ∈ wsX3_carryOut := by decide +kernel
  have L19 := hts (.fieldLink RX3 19 "AnvilHouse$Plan" "waiting" "I") (by decide +kernel)
  have L15 := hts (.fieldLink RX3 15 "AnvilHouse$Plan" "furnace" "I") (by decide +kernel)
  have hl9 : lv_has sl9 4 [(0, .ref pl)] := hl9
  refine lv_aload_n hx hb dX3_carryOut_0 rfl (lv_at hl9 0 rfl) ?_
  refine z_getf Z Mz9 hin3 0 rfl rfl 1 (by decide) L19 rfl (v := .int (wt)) rfl dX3_carryOut_1 ?_
  refine zn_top (y := 0) (hwt) ?_
  refine lv_if_ne (tgt := 9) hx hb dX3_carryOut_4 (by decide) (fun h => absurd h (by decide)) (fun _ => ?_)
  refine lv_iconst (v := 0) hx hb dX3_carryOut_7 (by decide) ?_
  exact hret _ _ _ _ _ sl9 _ _ Mz9 (rfl) (rfl) (rfl) (Nat.le_refl _) (Nat.le_refl _) dX3_carryOut_8
set_option maxHeartbeats 4000000 in
set_option maxRecDepth 100000 in
theorem cb_carryOut (l : Launch) (D : va_G) (T : Nat → ClassId) (pl pa : Nat) (ω : Nat → Int32) (wt fu : Int32) (nj : Nat) (hnj : nj ≤ 12) (hwt : wt = nI nj) (h0 : 0 < nj) : ZI l yX3_carryOut wsX3_carryOut (zrm 4 83) D T (plW pl pa T ω wt fu) (plW pl pa T ω 0 (plA ω nj fu (nj - 1))) [.ref pl] (absd ((plA ω nj fu 0) - fu) + absd ((plA ω nj fu (nj - 1)) - (plA ω nj fu 0))) 0 0 := by
  refine z_inI (cc := cX3_carryOut) (maxL := 4) (rt := .int) (by decide +kernel) rfl (Nat.le_of_ble_eq_true rfl) ?_
  intro p e s m args below meth c sl9 A Q Z hnm Mz9 hl9 hret
  have Z : zC p s m args c cX3_carryOut 4 RX3 wsX3_carryOut D T A := Z
  have hx := Z.1.1
  have hb := Z.1.2.1
  have hts := Z.1.2.2.2.2
  have hin3 : ∀ w ∈ wsX30, w ∈ wsX3_carryOut := by decide +kernel
  have L19 := hts (.fieldLink RX3 19 "AnvilHouse$Plan" "waiting" "I") (by decide +kernel)
  have L15 := hts (.fieldLink RX3 15 "AnvilHouse$Plan" "furnace" "I") (by decide +kernel)
  have hl9 : lv_has sl9 4 [(0, .ref pl)] := hl9
  refine lv_aload_n hx hb dX3_carryOut_0 rfl (lv_at hl9 0 rfl) ?_
  refine z_getf Z Mz9 hin3 0 rfl rfl 1 (by decide) L19 rfl (v := .int (wt)) rfl dX3_carryOut_1 ?_
  refine zn_top (y := nI (nj)) (hwt) ?_
  refine zn_if_ne (a := nj) (tgt := 9) (by omega) hx hb dX3_carryOut_4 (by decide) (fun _ => ?_) (fun h => absurd h (by omega))
  refine lv_aload_n hx hb dX3_carryOut_9 rfl (lv_at hl9 0 rfl) ?_
  refine lv_iconst (v := 0) hx hb dX3_carryOut_10 (by decide) ?_
  refine z_callAi (As := [.int 0]) (rest := []) (rv := plA ω nj fu 0) (wc' := plW pl pa T ω wt fu) Z Mz9 (cb_warmthAt l D T pl pa ω wt fu nj hnj hwt (0) (by omega) (by omega)) (cwV 1 hts gX3_carryOut_X3_warmthAt rfl rfl rfl (by decide +kernel) ⟨by decide, by decide⟩) (va_recv Z.2.1 Mz9.1 (ci := 4) (q0 := 0) rfl rfl) rfl hl9.1 (Nat.le_of_ble_eq_true rfl) dX3_carryOut_11 ⟨by decide, by decide⟩ rfl (fun Hp9 lc9 Mz9 => ?_)
  refine lv_istore_n (lv' := [(1, .int (plA ω nj fu 0)), (0, .ref pl)]) hx hb dX3_carryOut_14 rfl hl9 (by decide) rfl (fun sl9 hl9 => ?_)
  refine lv_aload_n hx hb dX3_carryOut_15 rfl (lv_at hl9 1 rfl) ?_
  refine lv_aload_n hx hb dX3_carryOut_16 rfl (lv_at hl9 1 rfl) ?_
  refine z_getf Z Mz9 hin3 0 rfl rfl 1 (by decide) L19 rfl (v := .int (wt)) rfl dX3_carryOut_17 ?_
  refine zn_top (y := nI (nj)) (hwt) ?_
  refine lv_iconst (v := 1) hx hb dX3_carryOut_20 (by decide) ?_
  refine zn_isub (a := nj) (b := 1) (by omega) hx hb dX3_carryOut_21 ?_
  refine z_callAi (As := [.int (nI (nj - 1))]) (rest := []) (rv := plA ω nj fu (nj - 1)) (wc' := plW pl pa T ω wt fu) Z Mz9 (cb_warmthAt l D T pl pa ω wt fu nj hnj hwt (nj - 1) (by omega) (by omega)) (cwV 1 hts gX3_carryOut_X3_warmthAt rfl rfl rfl (by decide +kernel) ⟨by decide, by decide⟩) (va_recv Z.2.1 Mz9.1 (ci := 4) (q0 := 0) rfl rfl) rfl hl9.1 (Nat.le_of_ble_eq_true rfl) dX3_carryOut_22 ⟨by decide, by decide⟩ rfl (fun Hp9 lc9 Mz9 => ?_)
  refine lv_istore_n (lv' := [(2, .int (plA ω nj fu (nj - 1))), (1, .int (plA ω nj fu 0)), (0, .ref pl)]) hx hb dX3_carryOut_25 rfl hl9 (by decide) rfl (fun sl9 hl9 => ?_)
  refine lv_aload_n hx hb dX3_carryOut_26 rfl (lv_at hl9 2 rfl) ?_
  refine lv_iload_n hx hb dX3_carryOut_27 rfl (lv_at hl9 1 rfl) ?_
  refine z_callAi (As := [.int (plA ω nj fu 0)]) (rest := []) (rv := absd ((plA ω nj fu 0) - fu)) (wc' := plW pl pa T ω wt fu) Z Mz9 (cb_wayTo l D T pl pa ω wt fu (plA ω nj fu 0)) (cwV 1 hts gX3_carryOut_X3_wayTo rfl rfl rfl (by decide +kernel) ⟨by decide, by decide⟩) (va_recv Z.2.1 Mz9.1 (ci := 4) (q0 := 0) rfl rfl) rfl hl9.1 (Nat.le_of_ble_eq_true rfl) dX3_carryOut_28 ⟨by decide, by decide⟩ rfl (fun Hp9 lc9 Mz9 => ?_)
  refine lv_iload_n hx hb dX3_carryOut_31 rfl (lv_at hl9 0 rfl) ?_
  refine lv_iload_n hx hb dX3_carryOut_32 rfl (lv_at hl9 1 rfl) ?_
  refine lv_isub hx hb dX3_carryOut_33 ?_
  refine va_mabs hx hb (Z.1.2.2.1.trans hl9.1.symm) Z.1.2.2.2.1 (hts (.methodLink RX3 30 Lib.Math.abs.name) (by decide +kernel)) (hts (.static Lib.Math.abs.name) (by decide +kernel)) (hts (.initialized "java/lang/Math") (by decide +kernel)) (hts (.code Lib.Math.abs.name Lib.Math.abs.code 1 (some .int)) (by decide +kernel)) (Nat.le_of_ble_eq_true rfl) (Nat.le_of_ble_eq_true rfl) (Nat.zero_le _) (Nat.zero_le _) dX3_carryOut_34 ?_
  refine zn_top (y := absd ((plA ω nj fu (nj - 1)) - (plA ω nj fu 0))) rfl ?_
  refine lv_iadd hx hb dX3_carryOut_37 ?_
  refine lv_istore_n (lv' := [(3, .int ((absd ((plA ω nj fu 0) - fu)) + (absd ((plA ω nj fu (nj - 1)) - (plA ω nj fu 0))))), (2, .int (plA ω nj fu (nj - 1))), (1, .int (plA ω nj fu 0)), (0, .ref pl)]) hx hb dX3_carryOut_38 rfl hl9 (by decide) rfl (fun sl9 hl9 => ?_)
  refine lv_aload_n hx hb dX3_carryOut_39 rfl (lv_at hl9 3 rfl) ?_
  refine lv_iload_n hx hb dX3_carryOut_40 rfl (lv_at hl9 1 rfl) ?_
  refine z_putf Z Mz9 hin3 tyX3 tyX3_ok nmX3 0 rfl rfl 2 (by decide) L15 rfl rfl (ty := .int) rfl rfl rfl (Nat.le_of_ble_eq_true rfl) (ws' := plW pl pa T ω wt (plA ω nj fu (nj - 1))) rfl dX3_carryOut_41 (fun Hp9 lc9 Mz9 => ?_)
  refine lv_aload_n hx hb dX3_carryOut_44 rfl (lv_at hl9 3 rfl) ?_
  refine lv_iconst (v := 0) hx hb dX3_carryOut_45 (by decide) ?_
  refine z_putf Z Mz9 hin3 tyX3 tyX3_ok nmX3 0 rfl rfl 1 (by decide) L19 rfl rfl (ty := .int) rfl rfl rfl (Nat.le_of_ble_eq_true rfl) (ws' := plW pl pa T ω 0 (plA ω nj fu (nj - 1))) rfl dX3_carryOut_46 (fun Hp9 lc9 Mz9 => ?_)
  refine lv_iload_n hx hb dX3_carryOut_49 rfl (lv_at hl9 0 rfl) ?_
  exact hret _ _ _ _ _ sl9 _ _ Mz9 (rfl) (rfl) (rfl) (Nat.le_refl _) (Nat.le_refl _) dX3_carryOut_50
