/-! ===== laid by program ===== -/
set_option maxHeartbeats 4000000 in
set_option maxRecDepth 100000 in
theorem cs_neighbourOf (l : Launch) (k : Nat) (hk : k < 8) : ZS l yX5_neighbourOf wsX5_neighbourOf (zrm 0 0) [.int (nI (k))] (nI (nbr k)) := by
  refine z_inS (cc := cX5_neighbourOf) (maxL := 1) (rt := .int) (by decide +kernel) rfl (Nat.le_of_ble_eq_true rfl) ?_
  intro p e s m args below meth c sl9 Q Z hl9 hret
  have Z : CallFix p m c cX5_neighbourOf 1 s args wsX5_neighbourOf RX5 := Z
  have hx := Z.1
  have hb := Z.2.1
  have hts := Z.2.2.2.2
  generalize hH : s.heap = Hp9 at hret ⊢
  have hl9 : lv_has sl9 1 [(0, .int (nI (k)))] := hl9
  refine lv_iload_n hx hb dX5_neighbourOf_0 rfl (lv_at hl9 0 rfl) ?_
  refine lv_bipush (v := 7) hx hb dX5_neighbourOf_1 (by decide) ?_
  refine zn_icmp_ne (a := k) (b := 7) (tgt := 12) (by omega) (by decide) hx hb dX5_neighbourOf_3 (by decide) (fun c_1 => ?_) (fun c_1 => ?_)
  ·
    refine lv_iload_n hx hb dX5_neighbourOf_12 rfl (lv_at hl9 0 rfl) ?_
    refine lv_iconst (v := 1) hx hb dX5_neighbourOf_13 (by decide) ?_
    refine zn_iadd (a := k) (b := 1) hx hb dX5_neighbourOf_14 ?_
    exact hret _ sl9 _ (by simp only [nbr, if_neg c_1]) (rfl) dX5_neighbourOf_15
  ·
    refine lv_iload_n hx hb dX5_neighbourOf_6 rfl (lv_at hl9 0 rfl) ?_
    refine lv_iconst (v := 1) hx hb dX5_neighbourOf_7 (by decide) ?_
    refine zn_isub (a := k) (b := 1) (by omega) hx hb dX5_neighbourOf_8 ?_
    refine lv_goto (tgt := 15) hx hb dX5_neighbourOf_9 (by decide) ?_
    exact hret _ sl9 _ (by simp only [nbr, if_pos c_1]) (rfl) dX5_neighbourOf_15
set_option maxHeartbeats 4000000 in
set_option maxRecDepth 100000 in
theorem cs_isMoreThanThrice (l : Launch) (x y : Int32) : ZS l yX5_isMoreThanThrice wsX5_isMoreThanThrice (zrm 0 0) [.int (x), .int (y)] (if 3 * y < x then 1 else 0) := by
  refine z_inS (cc := cX5_isMoreThanThrice) (maxL := 2) (rt := .boolean) (by decide +kernel) rfl (Nat.le_of_ble_eq_true rfl) ?_
  intro p e s m args below meth c sl9 Q Z hl9 hret
  have Z : CallFix p m c cX5_isMoreThanThrice 2 s args wsX5_isMoreThanThrice RX5 := Z
  have hx := Z.1
  have hb := Z.2.1
  have hts := Z.2.2.2.2
  generalize hH : s.heap = Hp9 at hret ⊢
  have hl9 : lv_has sl9 2 [(0, .int (x)), (1, .int (y))] := hl9
  refine lv_iload_n hx hb dX5_isMoreThanThrice_0 rfl (lv_at hl9 0 rfl) ?_
  refine lv_iconst (v := 3) hx hb dX5_isMoreThanThrice_1 (by decide) ?_
  refine lv_iload_n hx hb dX5_isMoreThanThrice_2 rfl (lv_at hl9 1 rfl) ?_
  refine lv_imul hx hb dX5_isMoreThanThrice_3 ?_
  refine lv_icmp_le (tgt := 11) hx hb dX5_isMoreThanThrice_4 (by decide) (fun c_1 => ?_) (fun c_1 => ?_)
  ·
    refine lv_iconst (v := 0) hx hb dX5_isMoreThanThrice_11 (by decide) ?_
    exact hret _ sl9 _ (by simp only [if_neg (Int32.not_lt.mpr c_1)]) (rfl) dX5_isMoreThanThrice_12
  ·
    refine lv_iconst (v := 1) hx hb dX5_isMoreThanThrice_7 (by decide) ?_
    refine lv_goto (tgt := 12) hx hb dX5_isMoreThanThrice_8 (by decide) ?_
    exact hret _ sl9 _ (by simp only [if_pos (Int32.not_le.mp c_1)]) (rfl) dX5_isMoreThanThrice_12
set_option maxHeartbeats 4000000 in
set_option maxRecDepth 100000 in
theorem cb_strike_crack (l : Launch) (D : va_G) (T : Nat → ClassId) (h a q u : Nat) (β α κ τ : Nat → Int32) (g t : Nat) (fo : Int32) (hg : g < 8) (ht : t < 8) (h8 : β 8 < 700) : ZIN l yX0_strike wsX0_strike (zrm 2 40) D T (biW h a q u T β α κ τ) (biW h a q u T (upd β 12 1) α κ τ) [.ref h, .int (nI (g)), .int (nI (t)), .int (fo)] (-1) 0 0 := by
  refine z_inIN (cc := cX0_strike) (maxL := 5) (rt := .int) (by decide +kernel) rfl (Nat.le_of_ble_eq_true rfl) ?_
  intro p e s m args below meth c sl9 A Q Z hN hnm Mz9 hl9 hret
  have Z : zC p s m args c cX0_strike 5 RX0 wsX0_strike D T A := Z
  have hx := Z.1.1
  have hb := Z.1.2.1
  have hts := Z.1.2.2.2.2
  have hin0 : ∀ w ∈ wsX00, w ∈ wsX0_strike := by decide +kernel
  have L19 := hts (.fieldLink RX0 19 "AnvilHouse$Billet" "core" "I") (by decide +kernel)
  have L75 := hts (.fieldLink RX0 75 "AnvilHouse$Billet" "cracked" "Z") (by decide +kernel)
  have L9 := hts (.fieldLink RX0 9 "AnvilHouse$Billet" "areas" "[I") (by decide +kernel)
  have L82 := hts (.fieldLink RX0 82 "AnvilHouse$Billet" "laps" "I") (by decide +kernel)
  have L22 := hts (.fieldLink RX0 22 "AnvilHouse$Billet" "grain" "I") (by decide +kernel)
  have hl9 : lv_has sl9 5 [(0, .ref h), (1, .int (nI (g))), (2, .int (nI (t))), (3, .int (fo))] := hl9
  refine lv_aload_n hx hb dX0_strike_0 rfl (lv_at hl9 0 rfl) ?_
  refine z_getf Z Mz9 hin0 0 rfl rfl 8 (by decide) L19 rfl (v := .int (β 8)) rfl dX0_strike_1 ?_
  refine lv_sipush (v := 700) hx hb dX0_strike_4 (by decide) ?_
  refine lv_icmp_ge (tgt := 17) hx hb dX0_strike_7 (by decide) (fun h => absurd h (Int32.not_le.mpr h8)) (fun _ => ?_)
  refine lv_aload_n hx hb dX0_strike_10 rfl (lv_at hl9 0 rfl) ?_
  refine lv_iconst (v := 1) hx hb dX0_strike_11 (by decide) ?_
  refine z_putf Z Mz9 hin0 tyX0 tyX0_ok nmX0 0 rfl rfl 12 (by decide) L75 rfl rfl (ty := .boolean) rfl rfl rfl (Nat.le_of_ble_eq_true rfl) (ws' := biW h a q u T (upd β 12 1) α κ τ) rfl dX0_strike_12 (fun Hp9 lc9 Mz9 => ?_)
  refine lv_iconst (v := (-1)) hx hb dX0_strike_15 (by decide) ?_
  exact hret _ _ _ _ _ sl9 _ _ Mz9 (rfl) (rfl) (rfl) (Nat.le_refl _) (Nat.le_refl _) dX0_strike_16
set_option maxHeartbeats 4000000 in
set_option maxRecDepth 100000 in
theorem cb_strike_ok (l : Launch) (D : va_G) (T : Nat → ClassId) (h a q u : Nat) (β α κ τ : Nat → Int32) (g t : Nat) (fo : Int32) (hg : g < 8) (ht : t < 8) (h8 : ¬ β 8 < 700) : ZIN l yX0_strike wsX0_strike (zrm 2 40) D T (biW h a q u T β α κ τ) (biW h a q u T (upd (upd (upd (upd β 7 (clS (β 7))) 8 (wrm (clS (β 7)) (β 8))) 10 (grv (β 10) fo (β 8))) 11 (β 11 + lapv ((blA α g t (imin fo (α g - 1))) g) ((blA α g t (imin fo (α g - 1))) t))) (blA α g t (imin fo (α g - 1))) κ τ) [.ref h, .int (nI (g)), .int (nI (t)), .int (fo)] (imin fo (α g - 1)) 0 0 := by
  refine z_inIN (cc := cX0_strike) (maxL := 5) (rt := .int) (by decide +kernel) rfl (Nat.le_of_ble_eq_true rfl) ?_
  intro p e s m args below meth c sl9 A Q Z hN hnm Mz9 hl9 hret
  have Z : zC p s m args c cX0_strike 5 RX0 wsX0_strike D T A := Z
  have hx := Z.1.1
  have hb := Z.1.2.1
  have hts := Z.1.2.2.2.2
  have hin0 : ∀ w ∈ wsX00, w ∈ wsX0_strike := by decide +kernel
  have L19 := hts (.fieldLink RX0 19 "AnvilHouse$Billet" "core" "I") (by decide +kernel)
  have L75 := hts (.fieldLink RX0 75 "AnvilHouse$Billet" "cracked" "Z") (by decide +kernel)
  have L9 := hts (.fieldLink RX0 9 "AnvilHouse$Billet" "areas" "[I") (by decide +kernel)
  have L82 := hts (.fieldLink RX0 82 "AnvilHouse$Billet" "laps" "I") (by decide +kernel)
  have L22 := hts (.fieldLink RX0 22 "AnvilHouse$Billet" "grain" "I") (by decide +kernel)
  have hl9 : lv_has sl9 5 [(0, .ref h), (1, .int (nI (g))), (2, .int (nI (t))), (3, .int (fo))] := hl9
  refine lv_aload_n hx hb dX0_strike_0 rfl (lv_at hl9 0 rfl) ?_
  refine z_getf Z Mz9 hin0 0 rfl rfl 8 (by decide) L19 rfl (v := .int (β 8)) rfl dX0_strike_1 ?_
  refine lv_sipush (v := 700) hx hb dX0_strike_4 (by decide) ?_
  refine lv_icmp_ge (tgt := 17) hx hb dX0_strike_7 (by decide) (fun _ => ?_) (fun h => absurd h (fun h => h (Int32.not_lt.mp h8)))
  refine lv_iload_n hx hb dX0_strike_17 rfl (lv_at hl9 3 rfl) ?_
  refine lv_aload_n hx hb dX0_strike_18 rfl (lv_at hl9 0 rfl) ?_
  refine z_getf Z Mz9 hin0 0 rfl rfl 2 (by decide) L9 rfl (v := .ref a) rfl dX0_strike_19 ?_
  refine lv_iload_n hx hb dX0_strike_22 rfl (lv_at hl9 1 rfl) ?_
  refine z_iald Z Mz9 1 (h0 := a) (n := 8) (f := α) rfl (j := g) (by omega) (by decide) dX0_strike_23 ?_
  refine lv_iconst (v := 1) hx hb dX0_strike_24 (by decide) ?_
  refine lv_isub hx hb dX0_strike_25 ?_
  refine va_mmin hx hb (Z.1.2.2.1.trans hl9.1.symm) Z.1.2.2.2.1 (hts (.methodLink RX0 66 Lib.Math.min.name) (by decide +kernel)) (hts (.static Lib.Math.min.name) (by decide +kernel)) (hts (.initialized "java/lang/Math") (by decide +kernel)) (hts (.code Lib.Math.min.name Lib.Math.min.code 2 (some .int)) (by decide +kernel)) (Nat.le_of_ble_eq_true rfl) (Nat.le_of_ble_eq_true rfl) (Nat.zero_le _) (Nat.zero_le _) dX0_strike_26 ?_
  refine zn_top (y := imin fo (α g - 1)) (min_imin _ _) ?_
  refine lv_istore (lv' := [(4, .int (imin fo (α g - 1))), (0, .ref h), (1, .int (nI (g))), (2, .int (nI (t))), (3, .int (fo))]) hx hb dX0_strike_29 hl9 (by decide) rfl (fun sl9 hl9 => ?_)
  refine lv_aload_n hx hb dX0_strike_31 rfl (lv_at hl9 1 rfl) ?_
  refine z_getf Z Mz9 hin0 0 rfl rfl 2 (by decide) L9 rfl (v := .ref a) rfl dX0_strike_32 ?_
  refine lv_iload_n hx hb dX0_strike_35 rfl (lv_at hl9 2 rfl) ?_
  refine lv_dup2_11 hx hb dX0_strike_36 rfl rfl ?_
  refine z_iald Z Mz9 1 (h0 := a) (n := 8) (f := α) rfl (j := g) (by omega) (by decide) dX0_strike_37 ?_
  refine lv_iload hx hb dX0_strike_38 (lv_at hl9 0 rfl) ?_
  refine lv_isub hx hb dX0_strike_40 ?_
  refine z_iast Z Mz9 1 (h0 := a) (n := 8) (f := α) rfl (j := g) (x := (α g) - (imin fo (α g - 1))) (by omega) (by decide) (ws' := biW h a q u T β (upd α g ((α g) - (imin fo (α g - 1)))) κ τ) rfl dX0_strike_41 (fun Hp9 lc9 Mz9 => ?_)
  refine lv_aload_n hx hb dX0_strike_42 rfl (lv_at hl9 1 rfl) ?_
  refine z_getf Z Mz9 hin0 0 rfl rfl 2 (by decide) L9 rfl (v := .ref a) rfl dX0_strike_43 ?_
  refine lv_iload_n hx hb dX0_strike_46 rfl (lv_at hl9 3 rfl) ?_
  refine lv_dup2_11 hx hb dX0_strike_47 rfl rfl ?_
  refine z_iald Z Mz9 1 (h0 := a) (n := 8) (f := upd α g ((α g) - (imin fo (α g - 1)))) rfl (j := t) (by omega) (by decide) dX0_strike_48 ?_
  refine lv_iload hx hb dX0_strike_49 (lv_at hl9 0 rfl) ?_
  refine lv_iadd hx hb dX0_strike_51 ?_
  refine z_iast Z Mz9 1 (h0 := a) (n := 8) (f := upd α g ((α g) - (imin fo (α g - 1)))) rfl (j := t) (x := ((upd α g ((α g) - (imin fo (α g - 1)))) t) + (imin fo (α g - 1))) (by omega) (by decide) (ws' := biW h a q u T β (upd (upd α g ((α g) - (imin fo (α g - 1)))) t (((upd α g ((α g) - (imin fo (α g - 1)))) t) + (imin fo (α g - 1)))) κ τ) rfl dX0_strike_52 (fun Hp9 lc9 Mz9 => ?_)
  have Mz9 : zM D A s.heap (biW h a q u T β (blA α g t (imin fo (α g - 1))) κ τ) _ _ := zM_w (by rfl) Mz9
  refine lv_aload_n hx hb dX0_strike_53 rfl (lv_at hl9 1 rfl) ?_
  refine z_getf Z Mz9 hin0 0 rfl rfl 2 (by decide) L9 rfl (v := .ref a) rfl dX0_strike_54 ?_
  refine lv_iload_n hx hb dX0_strike_57 rfl (lv_at hl9 2 rfl) ?_
  refine z_iald Z Mz9 1 (h0 := a) (n := 8) (f := blA α g t (imin fo (α g - 1))) rfl (j := g) (by omega) (by decide) dX0_strike_58 ?_
  refine lv_aload_n hx hb dX0_strike_59 rfl (lv_at hl9 1 rfl) ?_
  refine z_getf Z Mz9 hin0 0 rfl rfl 2 (by decide) L9 rfl (v := .ref a) rfl dX0_strike_60 ?_
  refine lv_iload_n hx hb dX0_strike_63 rfl (lv_at hl9 3 rfl) ?_
  refine z_iald Z Mz9 1 (h0 := a) (n := 8) (f := blA α g t (imin fo (α g - 1))) rfl (j := t) (by omega) (by decide) dX0_strike_64 ?_
  by_cases hm1 : 3 * ((blA α g t (imin fo (α g - 1))) t) < ((blA α g t (imin fo (α g - 1))) g)
  ·
    refine z_callSiN (As := [.int ((blA α g t (imin fo (α g - 1))) g), .int ((blA α g t (imin fo (α g - 1))) t)]) (rest := []) Z.1 (cs_isMoreThanThrice l ((blA α g t (imin fo (α g - 1))) g) ((blA α g t (imin fo (α g - 1))) t)) ⟨va_cnB 2 hts gX0_strike_X5_isMoreThanThrice_n78 rfl rfl rfl hN.2 (hts (.initialized RX5) (by decide +kernel)) (by decide +kernel) ⟨by decide, by decide⟩, hts (.static yX5_isMoreThanThrice) (by decide +kernel), trivial⟩ rfl hl9.1 (Nat.le_of_ble_eq_true rfl) dX0_strike_65 ⟨by decide, by decide⟩ rfl ?_
    refine zn_top (y := 1) (if_pos hm1) ?_
    refine lv_if_ne (tgt := 89) hx hb dX0_strike_68 (by decide) (fun _ => ?_) (fun h => absurd h (by decide))
    refine lv_aload_n hx hb dX0_strike_89 rfl (lv_at hl9 1 rfl) ?_
    refine lv_dup hx hb dX0_strike_90 rfl ?_
    refine z_getf Z Mz9 hin0 0 rfl rfl 11 (by decide) L82 rfl (v := .int (β 11)) rfl dX0_strike_91 ?_
    refine lv_iconst (v := 1) hx hb dX0_strike_94 (by decide) ?_
    refine lv_iadd hx hb dX0_strike_95 ?_
    refine z_putf Z Mz9 hin0 tyX0 tyX0_ok nmX0 0 rfl rfl 11 (by decide) L82 rfl rfl (ty := .int) rfl rfl rfl (Nat.le_of_ble_eq_true rfl) (ws' := biW h a q u T (upd β 11 ((β 11) + 1)) (blA α g t (imin fo (α g - 1))) κ τ) rfl dX0_strike_96 (fun Hp9 lc9 Mz9 => ?_)
    refine lv_aload_n hx hb dX0_strike_99 rfl (lv_at hl9 1 rfl) ?_
    refine z_getf Z Mz9 hin0 0 rfl rfl 8 (by decide) L19 rfl (v := .int (β 8)) rfl dX0_strike_100 ?_
    refine lv_sipush (v := 900) hx hb dX0_strike_103 (by decide) ?_
    refine lv_icmp_lt (tgt := 123) hx hb dX0_strike_106 (by decide) (fun c_1 => ?_) (fun c_1 => ?_)
    ·
      refine lv_aload_n hx hb dX0_strike_123 rfl (lv_at hl9 1 rfl) ?_
      refine z_callAv (As := []) (rest := []) (wc' := biW h a q u T (upd (upd (upd β 7 (clS (β 7))) 8 (wrm (clS (β 7)) (β 8))) 11 ((β 11) + 1)) (blA α g t (imin fo (α g - 1))) κ τ) Z Mz9 (cb_standOutside l D T h a q u (upd β 11 ((β 11) + 1)) (blA α g t (imin fo (α g - 1))) κ τ) (cwV 0 hts gX0_strike_X0_standOutside rfl rfl rfl (by decide +kernel) ⟨by decide, by decide⟩) (va_recv Z.2.1 Mz9.1 (ci := 1) (q0 := 0) rfl rfl) rfl hl9.1 (Nat.le_of_ble_eq_true rfl) dX0_strike_124 ⟨by decide, by decide⟩ rfl (fun Hp9 lc9 Mz9 => ?_)
      refine lv_iload hx hb dX0_strike_127 (lv_at hl9 0 rfl) ?_
      exact hret _ _ _ _ _ sl9 _ _ Mz9 (by simp only [lapv, grv, add_0, if_pos hm1, if_pos c_1] <;> rfl) (rfl) (rfl) (Nat.le_refl _) (Nat.le_refl _) dX0_strike_129
    ·
      refine lv_aload_n hx hb dX0_strike_109 rfl (lv_at hl9 1 rfl) ?_
      refine lv_iconst (v := 5) hx hb dX0_strike_110 (by decide) ?_
      refine lv_aload_n hx hb dX0_strike_111 rfl (lv_at hl9 1 rfl) ?_
      refine z_getf Z Mz9 hin0 0 rfl rfl 10 (by decide) L22 rfl (v := .int (β 10)) rfl dX0_strike_112 ?_
      refine lv_iload_n hx hb dX0_strike_115 rfl (lv_at hl9 4 rfl) ?_
      refine lv_isub hx hb dX0_strike_116 ?_
      refine va_mmax hx hb (Z.1.2.2.1.trans hl9.1.symm) Z.1.2.2.2.1 (hts (.methodLink RX0 85 Lib.Math.max.name) (by decide +kernel)) (hts (.static Lib.Math.max.name) (by decide +kernel)) (hts (.initialized "java/lang/Math") (by decide +kernel)) (hts (.code Lib.Math.max.name Lib.Math.max.code 2 (some .int)) (by decide +kernel)) (Nat.le_of_ble_eq_true rfl) (Nat.le_of_ble_eq_true rfl) (Nat.zero_le _) (Nat.zero_le _) dX0_strike_117 ?_
      refine zn_top (y := if β 10 - fo < 5 then 5 else β 10 - fo) (max_low _ _) ?_
      refine z_putf Z Mz9 hin0 tyX0 tyX0_ok nmX0 0 rfl rfl 10 (by decide) L22 rfl rfl (ty := .int) rfl rfl rfl (Nat.le_of_ble_eq_true rfl) (ws' := biW h a q u T (upd (upd β 10 (if β 10 - fo < 5 then 5 else β 10 - fo)) 11 ((β 11) + 1)) (blA α g t (imin fo (α g - 1))) κ τ) rfl dX0_strike_120 (fun Hp9 lc9 Mz9 => ?_)
      refine lv_aload_n hx hb dX0_strike_123 rfl (lv_at hl9 1 rfl) ?_
      refine z_callAv (As := []) (rest := []) (wc' := biW h a q u T (upd (upd (upd (upd β 7 (clS (β 7))) 8 (wrm (clS (β 7)) (β 8))) 10 (if β 10 - fo < 5 then 5 else β 10 - fo)) 11 ((β 11) + 1)) (blA α g t (imin fo (α g - 1))) κ τ) Z Mz9 (cb_standOutside l D T h a q u (upd (upd β 10 (if β 10 - fo < 5 then 5 else β 10 - fo)) 11 ((β 11) + 1)) (blA α g t (imin fo (α g - 1))) κ τ) (cwV 0 hts gX0_strike_X0_standOutside rfl rfl rfl (by decide +kernel) ⟨by decide, by decide⟩) (va_recv Z.2.1 Mz9.1 (ci := 1) (q0 := 0) rfl rfl) rfl hl9.1 (Nat.le_of_ble_eq_true rfl) dX0_strike_124 ⟨by decide, by decide⟩ rfl (fun Hp9 lc9 Mz9 => ?_)
      refine lv_iload hx hb dX0_strike_127 (lv_at hl9 0 rfl) ?_
      exact hret _ _ _ _ _ sl9 _ _ Mz9 (by simp only [lapv, grv, add_0, if_pos hm1, if_neg c_1] <;> rfl) (rfl) (rfl) (Nat.le_refl _) (Nat.le_refl _) dX0_strike_129
  ·
    refine z_callSiN (As := [.int ((blA α g t (imin fo (α g - 1))) g), .int ((blA α g t (imin fo (α g - 1))) t)]) (rest := []) Z.1 (cs_isMoreThanThrice l ((blA α g t (imin fo (α g - 1))) g) ((blA α g t (imin fo (α g - 1))) t)) ⟨va_cnB 2 hts gX0_strike_X5_isMoreThanThrice_n78 rfl rfl rfl hN.2 (hts (.initialized RX5) (by decide +kernel)) (by decide +kernel) ⟨by decide, by decide⟩, hts (.static yX5_isMoreThanThrice) (by decide +kernel), trivial⟩ rfl hl9.1 (Nat.le_of_ble_eq_true rfl) dX0_strike_65 ⟨by decide, by decide⟩ rfl ?_
    refine zn_top (y := 0) (if_neg hm1) ?_
    refine lv_if_ne (tgt := 89) hx hb dX0_strike_68 (by decide) (fun h => absurd h (by decide)) (fun _ => ?_)
    refine lv_aload_n hx hb dX0_strike_71 rfl (lv_at hl9 1 rfl) ?_
    refine z_getf Z Mz9 hin0 0 rfl rfl 2 (by decide) L9 rfl (v := .ref a) rfl dX0_strike_72 ?_
    refine lv_iload_n hx hb dX0_strike_75 rfl (lv_at hl9 3 rfl) ?_
    refine z_iald Z Mz9 1 (h0 := a) (n := 8) (f := blA α g t (imin fo (α g - 1))) rfl (j := t) (by omega) (by decide) dX0_strike_76 ?_
    refine lv_aload_n hx hb dX0_strike_77 rfl (lv_at hl9 1 rfl) ?_
    refine z_getf Z Mz9 hin0 0 rfl rfl 2 (by decide) L9 rfl (v := .ref a) rfl dX0_strike_78 ?_
    refine lv_iload_n hx hb dX0_strike_81 rfl (lv_at hl9 2 rfl) ?_
    refine z_iald Z Mz9 1 (h0 := a) (n := 8) (f := blA α g t (imin fo (α g - 1))) rfl (j := g) (by omega) (by decide) dX0_strike_82 ?_
    by_cases hm2 : 3 * ((blA α g t (imin fo (α g - 1))) g) < ((blA α g t (imin fo (α g - 1))) t)
    ·
      refine z_callSiN (As := [.int ((blA α g t (imin fo (α g - 1))) t), .int ((blA α g t (imin fo (α g - 1))) g)]) (rest := []) Z.1 (cs_isMoreThanThrice l ((blA α g t (imin fo (α g - 1))) t) ((blA α g t (imin fo (α g - 1))) g)) ⟨va_cnB 2 hts gX0_strike_X5_isMoreThanThrice_n78 rfl rfl rfl hN.2 (hts (.initialized RX5) (by decide +kernel)) (by decide +kernel) ⟨by decide, by decide⟩, hts (.static yX5_isMoreThanThrice) (by decide +kernel), trivial⟩ rfl hl9.1 (Nat.le_of_ble_eq_true rfl) dX0_strike_83 ⟨by decide, by decide⟩ rfl ?_
      refine zn_top (y := 1) (if_pos hm2) ?_
      refine lv_if_eq (tgt := 99) hx hb dX0_strike_86 (by decide) (fun h => absurd h (by decide)) (fun _ => ?_)
      refine lv_aload_n hx hb dX0_strike_89 rfl (lv_at hl9 1 rfl) ?_
      refine lv_dup hx hb dX0_strike_90 rfl ?_
      refine z_getf Z Mz9 hin0 0 rfl rfl 11 (by decide) L82 rfl (v := .int (β 11)) rfl dX0_strike_91 ?_
      refine lv_iconst (v := 1) hx hb dX0_strike_94 (by decide) ?_
      refine lv_iadd hx hb dX0_strike_95 ?_
      refine z_putf Z Mz9 hin0 tyX0 tyX0_ok nmX0 0 rfl rfl 11 (by decide) L82 rfl rfl (ty := .int) rfl rfl rfl (Nat.le_of_ble_eq_true rfl) (ws' := biW h a q u T (upd β 11 ((β 11) + 1)) (blA α g t (imin fo (α g - 1))) κ τ) rfl dX0_strike_96 (fun Hp9 lc9 Mz9 => ?_)
      refine lv_aload_n hx hb dX0_strike_99 rfl (lv_at hl9 1 rfl) ?_
      refine z_getf Z Mz9 hin0 0 rfl rfl 8 (by decide) L19 rfl (v := .int (β 8)) rfl dX0_strike_100 ?_
      refine lv_sipush (v := 900) hx hb dX0_strike_103 (by decide) ?_
      refine lv_icmp_lt (tgt := 123) hx hb dX0_strike_106 (by decide) (fun c_2 => ?_) (fun c_2 => ?_)
      ·
        refine lv_aload_n hx hb dX0_strike_123 rfl (lv_at hl9 1 rfl) ?_
        refine z_callAv (As := []) (rest := []) (wc' := biW h a q u T (upd (upd (upd β 7 (clS (β 7))) 8 (wrm (clS (β 7)) (β 8))) 11 ((β 11) + 1)) (blA α g t (imin fo (α g - 1))) κ τ) Z Mz9 (cb_standOutside l D T h a q u (upd β 11 ((β 11) + 1)) (blA α g t (imin fo (α g - 1))) κ τ) (cwV 0 hts gX0_strike_X0_standOutside rfl rfl rfl (by decide +kernel) ⟨by decide, by decide⟩) (va_recv Z.2.1 Mz9.1 (ci := 1) (q0 := 0) rfl rfl) rfl hl9.1 (Nat.le_of_ble_eq_true rfl) dX0_strike_124 ⟨by decide, by decide⟩ rfl (fun Hp9 lc9 Mz9 => ?_)
        refine lv_iload hx hb dX0_strike_127 (lv_at hl9 0 rfl) ?_
        exact hret _ _ _ _ _ sl9 _ _ Mz9 (by simp only [lapv, grv, add_0, if_neg hm1, if_pos hm2, if_pos c_2] <;> rfl) (rfl) (rfl) (Nat.le_refl _) (Nat.le_refl _) dX0_strike_129
      ·
        refine lv_aload_n hx hb dX0_strike_109 rfl (lv_at hl9 1 rfl) ?_
        refine lv_iconst (v := 5) hx hb dX0_strike_110 (by decide) ?_
        refine lv_aload_n hx hb dX0_strike_111 rfl (lv_at hl9 1 rfl) ?_
        refine z_getf Z Mz9 hin0 0 rfl rfl 10 (by decide) L22 rfl (v := .int (β 10)) rfl dX0_strike_112 ?_
        refine lv_iload_n hx hb dX0_strike_115 rfl (lv_at hl9 4 rfl) ?_
        refine lv_isub hx hb dX0_strike_116 ?_
        refine va_mmax hx hb (Z.1.2.2.1.trans hl9.1.symm) Z.1.2.2.2.1 (hts (.methodLink RX0 85 Lib.Math.max.name) (by decide +kernel)) (hts (.static Lib.Math.max.name) (by decide +kernel)) (hts (.initialized "java/lang/Math") (by decide +kernel)) (hts (.code Lib.Math.max.name Lib.Math.max.code 2 (some .int)) (by decide +kernel)) (Nat.le_of_ble_eq_true rfl) (Nat.le_of_ble_eq_true rfl) (Nat.zero_le _) (Nat.zero_le _) dX0_strike_117 ?_
        refine zn_top (y := if β 10 - fo < 5 then 5 else β 10 - fo) (max_low _ _) ?_
        refine z_putf Z Mz9 hin0 tyX0 tyX0_ok nmX0 0 rfl rfl 10 (by decide) L22 rfl rfl (ty := .int) rfl rfl rfl (Nat.le_of_ble_eq_true rfl) (ws' := biW h a q u T (upd (upd β 10 (if β 10 - fo < 5 then 5 else β 10 - fo)) 11 ((β 11) + 1)) (blA α g t (imin fo (α g - 1))) κ τ) rfl dX0_strike_120 (fun Hp9 lc9 Mz9 => ?_)
        refine lv_aload_n hx hb dX0_strike_123 rfl (lv_at hl9 1 rfl) ?_
        refine z_callAv (As := []) (rest := []) (wc' := biW h a q u T (upd (upd (upd (upd β 7 (clS (β 7))) 8 (wrm (clS (β 7)) (β 8))) 10 (if β 10 - fo < 5 then 5 else β 10 - fo)) 11 ((β 11) + 1)) (blA α g t (imin fo (α g - 1))) κ τ) Z Mz9 (cb_standOutside l D T h a q u (upd (upd β 10 (if β 10 - fo < 5 then 5 else β 10 - fo)) 11 ((β 11) + 1)) (blA α g t (imin fo (α g - 1))) κ τ) (cwV 0 hts gX0_strike_X0_standOutside rfl rfl rfl (by decide +kernel) ⟨by decide, by decide⟩) (va_recv Z.2.1 Mz9.1 (ci := 1) (q0 := 0) rfl rfl) rfl hl9.1 (Nat.le_of_ble_eq_true rfl) dX0_strike_124 ⟨by decide, by decide⟩ rfl (fun Hp9 lc9 Mz9 => ?_)
        refine lv_iload hx hb dX0_strike_127 (lv_at hl9 0 rfl) ?_
        exact hret _ _ _ _ _ sl9 _ _ Mz9 (by simp only [lapv, grv, add_0, if_neg hm1, if_pos hm2, if_neg c_2] <;> rfl) (rfl) (rfl) (Nat.le_refl _) (Nat.le_refl _) dX0_strike_129
    ·
      refine z_callSiN (As := [.int ((blA α g t (imin fo (α g - 1))) t), .int ((blA α g t (imin fo (α g - 1))) g)]) (rest := []) Z.1 (cs_isMoreThanThrice l ((blA α g t (imin fo (α g - 1))) t) ((blA α g t (imin fo (α g - 1))) g)) ⟨va_cnB 2 hts gX0_strike_X5_isMoreThanThrice_n78 rfl rfl rfl hN.2 (hts (.initialized RX5) (by decide +kernel)) (by decide +kernel) ⟨by decide, by decide⟩, hts (.static yX5_isMoreThanThrice) (by decide +kernel), trivial⟩ rfl hl9.1 (Nat.le_of_ble_eq_true rfl) dX0_strike_83 ⟨by decide, by decide⟩ rfl ?_
      refine zn_top (y := 0) (if_neg hm2) ?_
      refine lv_if_eq (tgt := 99) hx hb dX0_strike_86 (by decide) (fun _ => ?_) (fun h => absurd h (by decide))
      refine lv_aload_n hx hb dX0_strike_99 rfl (lv_at hl9 1 rfl) ?_
      refine z_getf Z Mz9 hin0 0 rfl rfl 8 (by decide) L19 rfl (v := .int (β 8)) rfl dX0_strike_100 ?_
      refine lv_sipush (v := 900) hx hb dX0_strike_103 (by decide) ?_
      refine lv_icmp_lt (tgt := 123) hx hb dX0_strike_106 (by decide) (fun c_3 => ?_) (fun c_3 => ?_)
      ·
        refine lv_aload_n hx hb dX0_strike_123 rfl (lv_at hl9 1 rfl) ?_
        refine z_callAv (As := []) (rest := []) (wc' := biW h a q u T (upd (upd β 7 (clS (β 7))) 8 (wrm (clS (β 7)) (β 8))) (blA α g t (imin fo (α g - 1))) κ τ) Z Mz9 (cb_standOutside l D T h a q u β (blA α g t (imin fo (α g - 1))) κ τ) (cwV 0 hts gX0_strike_X0_standOutside rfl rfl rfl (by decide +kernel) ⟨by decide, by decide⟩) (va_recv Z.2.1 Mz9.1 (ci := 1) (q0 := 0) rfl rfl) rfl hl9.1 (Nat.le_of_ble_eq_true rfl) dX0_strike_124 ⟨by decide, by decide⟩ rfl (fun Hp9 lc9 Mz9 => ?_)
        refine lv_iload hx hb dX0_strike_127 (lv_at hl9 0 rfl) ?_
        exact hret _ _ _ _ _ sl9 _ _ Mz9 (by simp only [lapv, grv, add_0, if_neg hm1, if_neg hm2, if_pos c_3] <;> rfl) (rfl) (rfl) (Nat.le_refl _) (Nat.le_refl _) dX0_strike_129
      ·
        refine lv_aload_n hx hb dX0_strike_109 rfl (lv_at hl9 1 rfl) ?_
        refine lv_iconst (v := 5) hx hb dX0_strike_110 (by decide) ?_
        refine lv_aload_n hx hb dX0_strike_111 rfl (lv_at hl9 1 rfl) ?_
        refine z_getf Z Mz9 hin0 0 rfl rfl 10 (by decide) L22 rfl (v := .int (β 10)) rfl dX0_strike_112 ?_
        refine lv_iload_n hx hb dX0_strike_115 rfl (lv_at hl9 4 rfl) ?_
        refine lv_isub hx hb dX0_strike_116 ?_
        refine va_mmax hx hb (Z.1.2.2.1.trans hl9.1.symm) Z.1.2.2.2.1 (hts (.methodLink RX0 85 Lib.Math.max.name) (by decide +kernel)) (hts (.static Lib.Math.max.name) (by decide +kernel)) (hts (.initialized "java/lang/Math") (by decide +kernel)) (hts (.code Lib.Math.max.name Lib.Math.max.code 2 (some .int)) (by decide +kernel)) (Nat.le_of_ble_eq_true rfl) (Nat.le_of_ble_eq_true rfl) (Nat.zero_le _) (Nat.zero_le _) dX0_strike_117 ?_
        refine zn_top (y := if β 10 - fo < 5 then 5 else β 10 - fo) (max_low _ _) ?_
        refine z_putf Z Mz9 hin0 tyX0 tyX0_ok nmX0 0 rfl rfl 10 (by decide) L22 rfl rfl (ty := .int) rfl rfl rfl (Nat.le_of_ble_eq_true rfl) (ws' := biW h a q u T (upd β 10 (if β 10 - fo < 5 then 5 else β 10 - fo)) (blA α g t (imin fo (α g - 1))) κ τ) rfl dX0_strike_120 (fun Hp9 lc9 Mz9 => ?_)
        refine lv_aload_n hx hb dX0_strike_123 rfl (lv_at hl9 1 rfl) ?_
        refine z_callAv (As := []) (rest := []) (wc' := biW h a q u T (upd (upd (upd β 7 (clS (β 7))) 8 (wrm (clS (β 7)) (β 8))) 10 (if β 10 - fo < 5 then 5 else β 10 - fo)) (blA α g t (imin fo (α g - 1))) κ τ) Z Mz9 (cb_standOutside l D T h a q u (upd β 10 (if β 10 - fo < 5 then 5 else β 10 - fo)) (blA α g t (imin fo (α g - 1))) κ τ) (cwV 0 hts gX0_strike_X0_standOutside rfl rfl rfl (by decide +kernel) ⟨by decide, by decide⟩) (va_recv Z.2.1 Mz9.1 (ci := 1) (q0 := 0) rfl rfl) rfl hl9.1 (Nat.le_of_ble_eq_true rfl) dX0_strike_124 ⟨by decide, by decide⟩ rfl (fun Hp9 lc9 Mz9 => ?_)
        refine lv_iload hx hb dX0_strike_127 (lv_at hl9 0 rfl) ?_
        exact hret _ _ _ _ _ sl9 _ _ Mz9 (by simp only [lapv, grv, add_0, if_neg hm1, if_neg hm2, if_neg c_3] <;> rfl) (rfl) (rfl) (Nat.le_refl _) (Nat.le_refl _) dX0_strike_129
set_option maxHeartbeats 4000000 in
set_option maxRecDepth 100000 in
theorem cb_isUneven (l : Launch) (D : va_G) (T : Nat → ClassId) (h a q u : Nat) (β α κ τ : Nat → Int32)  : ZIN l yX0_isUneven wsX0_isUneven (zrm 1 21) D T (biW h a q u T β α κ τ) (biW h a q u T β α κ τ) [.ref h] (UE α) 0 0 := by
  simp only [UE_eq]
  refine z_inIN (cc := cX0_isUneven) (maxL := 3) (rt := .boolean) (by decide +kernel) rfl (Nat.le_of_ble_eq_true rfl) ?_
  intro p e s m args below meth c sl9 A Q Z hN hnm Mz9 hl9 hret
  have Z : zC p s m args c cX0_isUneven 3 RX0 wsX0_isUneven D T A := Z
  have hx := Z.1.1
  have hb := Z.1.2.1
  have hts := Z.1.2.2.2.2
  have hin0 : ∀ w ∈ wsX00, w ∈ wsX0_isUneven := by decide +kernel
  have L9 := hts (.fieldLink RX0 9 "AnvilHouse$Billet" "areas" "[I") (by decide +kernel)
  have hl9 : lv_has sl9 3 [(0, .ref h)] := hl9
  refine lv_iconst (v := 0) hx hb dX0_isUneven_0 (by decide) ?_
  refine lv_istore_n (lv' := [(1, .int 0), (0, .ref h)]) hx hb dX0_isUneven_1 rfl hl9 (by decide) rfl (fun sl9 hl9 => ?_)
  have LP2_1 : ∀ (n2 k : Nat), k + n2 = 8 → (∀ mm : Nat, k + mm = 8 → une α 8 = une α mm) → ∀ (Hp9 : Heap) (lc9 : List Loc) (sl9 : Array Slot), zM D A s.heap (biW h a q u T β α κ τ) Hp9 lc9 → lv_has sl9 3 [(0, .ref h), (1, .int (nI (k)))] → W p l e (zrm 1 21) s m args below meth c Hp9 lc9 0 0 Q (F0 m 2 sl9 []) := by
    intro n2
    induction n2 with
    | zero =>
      intro k hk9 h90 Hp9 lc9 sl9 Mz9 hl9
      obtain rfl : 8 = k := by omega
      refine lv_iload_n hx hb dX0_isUneven_2 rfl (lv_at hl9 1 rfl) ?_
      refine lv_bipush (v := 8) hx hb dX0_isUneven_3 (by decide) ?_
      refine zn_icmp_ge (a := 8) (b := 8) (tgt := 52) (by omega) (by decide) hx hb dX0_isUneven_5 (by decide) (fun _ => ?_) (fun h => absurd h (by omega))
      refine lv_iconst (v := 0) hx hb dX0_isUneven_52 (by decide) ?_
      exact hret _ _ _ _ _ sl9 _ _ Mz9 (rfl) (by rw [h90 0 (by omega)]; rfl) (rfl) (Nat.le_refl _) (Nat.le_refl _) dX0_isUneven_53
    | succ n2 ih2 =>
      intro k hk9 h90 Hp9 lc9 sl9 Mz9 hl9
      refine lv_iload_n hx hb dX0_isUneven_2 rfl (lv_at hl9 1 rfl) ?_
      refine lv_bipush (v := 8) hx hb dX0_isUneven_3 (by decide) ?_
      refine zn_icmp_ge (a := k) (b := 8) (tgt := 52) (by omega) (by decide) hx hb dX0_isUneven_5 (by decide) (fun h => absurd h (by omega)) (fun _ => ?_)
      refine lv_aload_n hx hb dX0_isUneven_8 rfl (lv_at hl9 0 rfl) ?_
      refine z_getf Z Mz9 hin0 0 rfl rfl 2 (by decide) L9 rfl (v := .ref a) rfl dX0_isUneven_9 ?_
      refine lv_iload_n hx hb dX0_isUneven_12 rfl (lv_at hl9 1 rfl) ?_
      refine z_callSiN (As := [.int (nI (k))]) (rest := [.ref a]) Z.1 (cs_neighbourOf l (k) (by omega)) ⟨va_cnB 1 hts gX0_isUneven_X5_neighbourOf_n133 rfl rfl rfl hN.1 (hts (.initialized RX5) (by decide +kernel)) (by decide +kernel) ⟨by decide, by decide⟩, hts (.static yX5_neighbourOf) (by decide +kernel), trivial⟩ rfl hl9.1 (Nat.le_of_ble_eq_true rfl) dX0_isUneven_13 ⟨by decide, by decide⟩ rfl ?_
      refine z_iald Z Mz9 1 (h0 := a) (n := 8) (f := α) rfl (j := nbr (k)) (by have := nbr_lt (k := k) (by omega); omega) (by decide) dX0_isUneven_16 ?_
      refine lv_istore_n (lv' := [(2, .int (α (nbr (k)))), (0, .ref h), (1, .int (nI (k)))]) hx hb dX0_isUneven_17 rfl hl9 (by decide) rfl (fun sl9 hl9 => ?_)
      refine lv_aload_n hx hb dX0_isUneven_18 rfl (lv_at hl9 1 rfl) ?_
      refine z_getf Z Mz9 hin0 0 rfl rfl 2 (by decide) L9 rfl (v := .ref a) rfl dX0_isUneven_19 ?_
      refine lv_iload_n hx hb dX0_isUneven_22 rfl (lv_at hl9 2 rfl) ?_
      refine z_iald Z Mz9 1 (h0 := a) (n := 8) (f := α) rfl (j := k) (by omega) (by decide) dX0_isUneven_23 ?_
      refine lv_iload_n hx hb dX0_isUneven_24 rfl (lv_at hl9 0 rfl) ?_
      by_cases hm1 : 3 * (α (nbr (k))) < (α k)
      ·
        refine z_callSiN (As := [.int (α k), .int (α (nbr (k)))]) (rest := []) Z.1 (cs_isMoreThanThrice l (α k) (α (nbr (k)))) ⟨va_cnB 2 hts gX0_isUneven_X5_isMoreThanThrice_n78 rfl rfl rfl hN.2 (hts (.initialized RX5) (by decide +kernel)) (by decide +kernel) ⟨by decide, by decide⟩, hts (.static yX5_isMoreThanThrice) (by decide +kernel), trivial⟩ rfl hl9.1 (Nat.le_of_ble_eq_true rfl) dX0_isUneven_25 ⟨by decide, by decide⟩ rfl ?_
        refine zn_top (y := 1) (if_pos hm1) ?_
        refine lv_if_ne (tgt := 44) hx hb dX0_isUneven_28 (by decide) (fun _ => ?_) (fun h => absurd h (by decide))
        refine lv_iconst (v := 1) hx hb dX0_isUneven_44 (by decide) ?_
        exact hret _ _ _ _ _ sl9 _ _ Mz9 (rfl) (by rw [h90 (n2 + 1) (by omega), une, show 7 - n2 = k by omega]; simp only [if_pos hm1]) (rfl) (Nat.le_refl _) (Nat.le_refl _) dX0_isUneven_45
      ·
        refine z_callSiN (As := [.int (α k), .int (α (nbr (k)))]) (rest := []) Z.1 (cs_isMoreThanThrice l (α k) (α (nbr (k)))) ⟨va_cnB 2 hts gX0_isUneven_X5_isMoreThanThrice_n78 rfl rfl rfl hN.2 (hts (.initialized RX5) (by decide +kernel)) (by decide +kernel) ⟨by decide, by decide⟩, hts (.static yX5_isMoreThanThrice) (by decide +kernel), trivial⟩ rfl hl9.1 (Nat.le_of_ble_eq_true rfl) dX0_isUneven_25 ⟨by decide, by decide⟩ rfl ?_
        refine zn_top (y := 0) (if_neg hm1) ?_
        refine lv_if_ne (tgt := 44) hx hb dX0_isUneven_28 (by decide) (fun h => absurd h (by decide)) (fun _ => ?_)
        refine lv_iload_n hx hb dX0_isUneven_31 rfl (lv_at hl9 0 rfl) ?_
        refine lv_aload_n hx hb dX0_isUneven_32 rfl (lv_at hl9 1 rfl) ?_
        refine z_getf Z Mz9 hin0 0 rfl rfl 2 (by decide) L9 rfl (v := .ref a) rfl dX0_isUneven_33 ?_
        refine lv_iload_n hx hb dX0_isUneven_36 rfl (lv_at hl9 2 rfl) ?_
        refine z_iald Z Mz9 1 (h0 := a) (n := 8) (f := α) rfl (j := k) (by omega) (by decide) dX0_isUneven_37 ?_
        by_cases hm2 : 3 * (α k) < (α (nbr (k)))
        ·
          refine z_callSiN (As := [.int (α (nbr (k))), .int (α k)]) (rest := []) Z.1 (cs_isMoreThanThrice l (α (nbr (k))) (α k)) ⟨va_cnB 2 hts gX0_isUneven_X5_isMoreThanThrice_n78 rfl rfl rfl hN.2 (hts (.initialized RX5) (by decide +kernel)) (by decide +kernel) ⟨by decide, by decide⟩, hts (.static yX5_isMoreThanThrice) (by decide +kernel), trivial⟩ rfl hl9.1 (Nat.le_of_ble_eq_true rfl) dX0_isUneven_38 ⟨by decide, by decide⟩ rfl ?_
          refine zn_top (y := 1) (if_pos hm2) ?_
          refine lv_if_eq (tgt := 46) hx hb dX0_isUneven_41 (by decide) (fun h => absurd h (by decide)) (fun _ => ?_)
          refine lv_iconst (v := 1) hx hb dX0_isUneven_44 (by decide) ?_
          exact hret _ _ _ _ _ sl9 _ _ Mz9 (rfl) (by rw [h90 (n2 + 1) (by omega), une, show 7 - n2 = k by omega]; simp only [if_neg hm1, if_pos hm2]) (rfl) (Nat.le_refl _) (Nat.le_refl _) dX0_isUneven_45
        ·
          refine z_callSiN (As := [.int (α (nbr (k))), .int (α k)]) (rest := []) Z.1 (cs_isMoreThanThrice l (α (nbr (k))) (α k)) ⟨va_cnB 2 hts gX0_isUneven_X5_isMoreThanThrice_n78 rfl rfl rfl hN.2 (hts (.initialized RX5) (by decide +kernel)) (by decide +kernel) ⟨by decide, by decide⟩, hts (.static yX5_isMoreThanThrice) (by decide +kernel), trivial⟩ rfl hl9.1 (Nat.le_of_ble_eq_true rfl) dX0_isUneven_38 ⟨by decide, by decide⟩ rfl ?_
          refine zn_top (y := 0) (if_neg hm2) ?_
          refine lv_if_eq (tgt := 46) hx hb dX0_isUneven_41 (by decide) (fun _ => ?_) (fun h => absurd h (by decide))
          refine lv_iinc (v := nI (k + 1)) (lv' := [(1, .int (nI (k + 1))), (2, .int (α (nbr (k)))), (0, .ref h)]) hx hb dX0_isUneven_46 hl9 (k := 2) rfl (nI_add (k) 1) (by decide) rfl (fun sl9 hl9 => ?_)
          refine lv_goto (tgt := 2) hx hb dX0_isUneven_49 (by decide) ?_
          exact ih2 (k + 1) (by omega) (fun mm hmm => by rw [h90 (mm + 1) (by omega), une, show 7 - mm = k by omega]; simp only [if_neg hm1, if_neg hm2]) _ _ _ Mz9 (lv_sub hl9 [2, 0] rfl)
  exact LP2_1 (8 - 0) (0) (by omega) (fun mm hmm => by rw [show mm = 8 by omega]) _ _ _ Mz9 (lv_sub hl9 [1, 0] rfl)
set_option maxHeartbeats 4000000 in
set_option maxRecDepth 100000 in
theorem cb_plunge (l : Launch) (D : va_G) (T : Nat → ClassId) (h a q u : Nat) (β α κ τ : Nat → Int32) (ld md : Int32) : ZVN l yX0_plunge wsX0_plunge (zrm 2 43) D T (biW h a q u T β α κ τ) (biW h a q u T (upd (upd (upd (upd (upd β 7 20) 8 20) 12 (if md = 0 then β 12 else if UE α = 0 then β 12 else 1)) 14 ld) 16 100) α (QQ α κ 0 (τ 1) (τ 2) md) τ) [.ref h, .int (ld), .int (md)] 0 0 := by
  simp only [QQ_eq]
  refine z_inVN (cc := cX0_plunge) (maxL := 5) (by decide +kernel) rfl (Nat.le_of_ble_eq_true rfl) ?_
  intro p e s m args below meth c sl9 A Q Z hN hnm Mz9 hl9 hret
  have Z : zC p s m args c cX0_plunge 5 RX0 wsX0_plunge D T A := Z
  have hx := Z.1.1
  have hb := Z.1.2.1
  have hts := Z.1.2.2.2.2
  have hin0 : ∀ w ∈ wsX00, w ∈ wsX0_plunge := by decide +kernel
  have hin4 : ∀ w ∈ wsX40, w ∈ wsX0_plunge := by decide +kernel
  have L9 := hts (.fieldLink RX0 9 "AnvilHouse$Billet" "areas" "[I") (by decide +kernel)
  have L31 := hts (.fieldLink RX0 31 "AnvilHouse$Billet" "quenched" "[I") (by decide +kernel)
  have L44 := hts (.fieldLink RX0 44 "AnvilHouse$Billet" "steel" "LAnvilHouse$Steel;") (by decide +kernel)
  have L121 := hts (.fieldLink RX0 121 "AnvilHouse$Steel" "hard" "I") (by decide +kernel)
  have L126 := hts (.fieldLink RX0 126 "AnvilHouse$Steel" "drop" "I") (by decide +kernel)
  have L75 := hts (.fieldLink RX0 75 "AnvilHouse$Billet" "cracked" "Z") (by decide +kernel)
  have L15 := hts (.fieldLink RX0 15 "AnvilHouse$Billet" "skin" "I") (by decide +kernel)
  have L19 := hts (.fieldLink RX0 19 "AnvilHouse$Billet" "core" "I") (by decide +kernel)
  have L34 := hts (.fieldLink RX0 34 "AnvilHouse$Billet" "tempered" "I") (by decide +kernel)
  have L28 := hts (.fieldLink RX0 28 "AnvilHouse$Billet" "load" "I") (by decide +kernel)
  have hl9 : lv_has sl9 5 [(0, .ref h), (1, .int (ld)), (2, .int (md))] := hl9
  refine lv_iconst (v := 0) hx hb dX0_plunge_0 (by decide) ?_
  refine lv_istore_n (lv' := [(3, .int 0), (0, .ref h), (1, .int (ld)), (2, .int (md))]) hx hb dX0_plunge_1 rfl hl9 (by decide) rfl (fun sl9 hl9 => ?_)
  have LP2_1 : ∀ (n2 k : Nat), k + n2 = 8 → ∀ (Hp9 : Heap) (lc9 : List Loc) (sl9 : Array Slot), zM D A s.heap (biW h a q u T β α (qQ α κ 0 (τ 1) (τ 2) md (k)) τ) Hp9 lc9 → lv_has sl9 5 [(0, .ref h), (1, .int (ld)), (2, .int (md)), (3, .int (nI (0 + (k))))] → W p l e (zrm 2 43) s m args below meth c Hp9 lc9 0 0 Q (F0 m 2 sl9 []) := by
    intro n2
    induction n2 with
    | zero =>
      intro k hk9 Hp9 lc9 sl9 Mz9 hl9
      obtain rfl : 8 = k := by omega
      refine lv_iload_n hx hb dX0_plunge_2 rfl (lv_at hl9 3 rfl) ?_
      refine lv_bipush (v := 8) hx hb dX0_plunge_3 (by decide) ?_
      refine zn_icmp_ge (a := 0 + (8)) (b := 8) (tgt := 74) (by omega) (by decide) hx hb dX0_plunge_5 (by decide) (fun _ => ?_) (fun h => absurd h (by omega))
      refine lv_iload_n hx hb dX0_plunge_74 rfl (lv_at hl9 2 rfl) ?_
      refine lv_if_eq (tgt := 90) hx hb dX0_plunge_75 (by decide) (fun c_1 => ?_) (fun c_1 => ?_)
      ·
        refine lv_aload_n hx hb dX0_plunge_90 rfl (lv_at hl9 0 rfl) ?_
        refine lv_bipush (v := 20) hx hb dX0_plunge_91 (by decide) ?_
        refine z_putf Z Mz9 hin0 tyX0 tyX0_ok nmX0 0 rfl rfl 7 (by decide) L15 rfl rfl (ty := .int) rfl rfl rfl (Nat.le_of_ble_eq_true rfl) (ws' := biW h a q u T (upd β 7 20) α (qQ α κ 0 (τ 1) (τ 2) md (8)) τ) rfl dX0_plunge_93 (fun Hp9 lc9 Mz9 => ?_)
        refine lv_aload_n hx hb dX0_plunge_96 rfl (lv_at hl9 0 rfl) ?_
        refine lv_bipush (v := 20) hx hb dX0_plunge_97 (by decide) ?_
        refine z_putf Z Mz9 hin0 tyX0 tyX0_ok nmX0 0 rfl rfl 8 (by decide) L19 rfl rfl (ty := .int) rfl rfl rfl (Nat.le_of_ble_eq_true rfl) (ws' := biW h a q u T (upd (upd β 7 20) 8 20) α (qQ α κ 0 (τ 1) (τ 2) md (8)) τ) rfl dX0_plunge_99 (fun Hp9 lc9 Mz9 => ?_)
        refine lv_aload_n hx hb dX0_plunge_102 rfl (lv_at hl9 0 rfl) ?_
        refine lv_bipush (v := 100) hx hb dX0_plunge_103 (by decide) ?_
        refine z_putf Z Mz9 hin0 tyX0 tyX0_ok nmX0 0 rfl rfl 16 (by decide) L34 rfl rfl (ty := .int) rfl rfl rfl (Nat.le_of_ble_eq_true rfl) (ws' := biW h a q u T (upd (upd (upd β 7 20) 8 20) 16 100) α (qQ α κ 0 (τ 1) (τ 2) md (8)) τ) rfl dX0_plunge_105 (fun Hp9 lc9 Mz9 => ?_)
        refine lv_aload_n hx hb dX0_plunge_108 rfl (lv_at hl9 0 rfl) ?_
        refine lv_iload_n hx hb dX0_plunge_109 rfl (lv_at hl9 1 rfl) ?_
        refine z_putf Z Mz9 hin0 tyX0 tyX0_ok nmX0 0 rfl rfl 14 (by decide) L28 rfl rfl (ty := .int) rfl rfl rfl (Nat.le_of_ble_eq_true rfl) (ws' := biW h a q u T (upd (upd (upd (upd β 7 20) 8 20) 14 ld) 16 100) α (qQ α κ 0 (τ 1) (τ 2) md (8)) τ) rfl dX0_plunge_110 (fun Hp9 lc9 Mz9 => ?_)
        exact hret _ _ _ _ _ sl9 _ Mz9 (by simp only [if_pos c_1] <;> rfl) (Nat.le_refl _) (Nat.le_refl _) dX0_plunge_113
      ·
        refine lv_aload_n hx hb dX0_plunge_78 rfl (lv_at hl9 0 rfl) ?_
        refine z_callAiN (As := []) (rest := []) (rv := UE α) (wc' := biW h a q u T β α (qQ α κ 0 (τ 1) (τ 2) md (8)) τ) Z hN Mz9 (cb_isUneven l D T h a q u β α (qQ α κ 0 (τ 1) (τ 2) md (8)) τ) (cwV 0 hts gX0_plunge_X0_isUneven rfl rfl rfl (by decide +kernel) ⟨by decide, by decide⟩) (va_recv Z.2.1 Mz9.1 (ci := 1) (q0 := 0) rfl rfl) rfl hl9.1 (Nat.le_of_ble_eq_true rfl) dX0_plunge_79 ⟨by decide, by decide⟩ rfl (fun Hp9 lc9 Mz9 => ?_)
        refine lv_if_eq (tgt := 90) hx hb dX0_plunge_82 (by decide) (fun c_2 => ?_) (fun c_2 => ?_)
        ·
          refine lv_aload_n hx hb dX0_plunge_90 rfl (lv_at hl9 0 rfl) ?_
          refine lv_bipush (v := 20) hx hb dX0_plunge_91 (by decide) ?_
          refine z_putf Z Mz9 hin0 tyX0 tyX0_ok nmX0 0 rfl rfl 7 (by decide) L15 rfl rfl (ty := .int) rfl rfl rfl (Nat.le_of_ble_eq_true rfl) (ws' := biW h a q u T (upd β 7 20) α (qQ α κ 0 (τ 1) (τ 2) md (8)) τ) rfl dX0_plunge_93 (fun Hp9 lc9 Mz9 => ?_)
          refine lv_aload_n hx hb dX0_plunge_96 rfl (lv_at hl9 0 rfl) ?_
          refine lv_bipush (v := 20) hx hb dX0_plunge_97 (by decide) ?_
          refine z_putf Z Mz9 hin0 tyX0 tyX0_ok nmX0 0 rfl rfl 8 (by decide) L19 rfl rfl (ty := .int) rfl rfl rfl (Nat.le_of_ble_eq_true rfl) (ws' := biW h a q u T (upd (upd β 7 20) 8 20) α (qQ α κ 0 (τ 1) (τ 2) md (8)) τ) rfl dX0_plunge_99 (fun Hp9 lc9 Mz9 => ?_)
          refine lv_aload_n hx hb dX0_plunge_102 rfl (lv_at hl9 0 rfl) ?_
          refine lv_bipush (v := 100) hx hb dX0_plunge_103 (by decide) ?_
          refine z_putf Z Mz9 hin0 tyX0 tyX0_ok nmX0 0 rfl rfl 16 (by decide) L34 rfl rfl (ty := .int) rfl rfl rfl (Nat.le_of_ble_eq_true rfl) (ws' := biW h a q u T (upd (upd (upd β 7 20) 8 20) 16 100) α (qQ α κ 0 (τ 1) (τ 2) md (8)) τ) rfl dX0_plunge_105 (fun Hp9 lc9 Mz9 => ?_)
          refine lv_aload_n hx hb dX0_plunge_108 rfl (lv_at hl9 0 rfl) ?_
          refine lv_iload_n hx hb dX0_plunge_109 rfl (lv_at hl9 1 rfl) ?_
          refine z_putf Z Mz9 hin0 tyX0 tyX0_ok nmX0 0 rfl rfl 14 (by decide) L28 rfl rfl (ty := .int) rfl rfl rfl (Nat.le_of_ble_eq_true rfl) (ws' := biW h a q u T (upd (upd (upd (upd β 7 20) 8 20) 14 ld) 16 100) α (qQ α κ 0 (τ 1) (τ 2) md (8)) τ) rfl dX0_plunge_110 (fun Hp9 lc9 Mz9 => ?_)
          exact hret _ _ _ _ _ sl9 _ Mz9 (by simp only [if_neg c_1, if_pos c_2] <;> rfl) (Nat.le_refl _) (Nat.le_refl _) dX0_plunge_113
        ·
          refine lv_aload_n hx hb dX0_plunge_85 rfl (lv_at hl9 0 rfl) ?_
          refine lv_iconst (v := 1) hx hb dX0_plunge_86 (by decide) ?_
          refine z_putf Z Mz9 hin0 tyX0 tyX0_ok nmX0 0 rfl rfl 12 (by decide) L75 rfl rfl (ty := .boolean) rfl rfl rfl (Nat.le_of_ble_eq_true rfl) (ws' := biW h a q u T (upd β 12 1) α (qQ α κ 0 (τ 1) (τ 2) md (8)) τ) rfl dX0_plunge_87 (fun Hp9 lc9 Mz9 => ?_)
          refine lv_aload_n hx hb dX0_plunge_90 rfl (lv_at hl9 0 rfl) ?_
          refine lv_bipush (v := 20) hx hb dX0_plunge_91 (by decide) ?_
          refine z_putf Z Mz9 hin0 tyX0 tyX0_ok nmX0 0 rfl rfl 7 (by decide) L15 rfl rfl (ty := .int) rfl rfl rfl (Nat.le_of_ble_eq_true rfl) (ws' := biW h a q u T (upd (upd β 7 20) 12 1) α (qQ α κ 0 (τ 1) (τ 2) md (8)) τ) rfl dX0_plunge_93 (fun Hp9 lc9 Mz9 => ?_)
          refine lv_aload_n hx hb dX0_plunge_96 rfl (lv_at hl9 0 rfl) ?_
          refine lv_bipush (v := 20) hx hb dX0_plunge_97 (by decide) ?_
          refine z_putf Z Mz9 hin0 tyX0 tyX0_ok nmX0 0 rfl rfl 8 (by decide) L19 rfl rfl (ty := .int) rfl rfl rfl (Nat.le_of_ble_eq_true rfl) (ws' := biW h a q u T (upd (upd (upd β 7 20) 8 20) 12 1) α (qQ α κ 0 (τ 1) (τ 2) md (8)) τ) rfl dX0_plunge_99 (fun Hp9 lc9 Mz9 => ?_)
          refine lv_aload_n hx hb dX0_plunge_102 rfl (lv_at hl9 0 rfl) ?_
          refine lv_bipush (v := 100) hx hb dX0_plunge_103 (by decide) ?_
          refine z_putf Z Mz9 hin0 tyX0 tyX0_ok nmX0 0 rfl rfl 16 (by decide) L34 rfl rfl (ty := .int) rfl rfl rfl (Nat.le_of_ble_eq_true rfl) (ws' := biW h a q u T (upd (upd (upd (upd β 7 20) 8 20) 12 1) 16 100) α (qQ α κ 0 (τ 1) (τ 2) md (8)) τ) rfl dX0_plunge_105 (fun Hp9 lc9 Mz9 => ?_)
          refine lv_aload_n hx hb dX0_plunge_108 rfl (lv_at hl9 0 rfl) ?_
          refine lv_iload_n hx hb dX0_plunge_109 rfl (lv_at hl9 1 rfl) ?_
          refine z_putf Z Mz9 hin0 tyX0 tyX0_ok nmX0 0 rfl rfl 14 (by decide) L28 rfl rfl (ty := .int) rfl rfl rfl (Nat.le_of_ble_eq_true rfl) (ws' := biW h a q u T (upd (upd (upd (upd (upd β 7 20) 8 20) 12 1) 14 ld) 16 100) α (qQ α κ 0 (τ 1) (τ 2) md (8)) τ) rfl dX0_plunge_110 (fun Hp9 lc9 Mz9 => ?_)
          exact hret _ _ _ _ _ sl9 _ Mz9 (by simp only [if_neg c_1, if_neg c_2] <;> rfl) (Nat.le_refl _) (Nat.le_refl _) dX0_plunge_113
    | succ n2 ih2 =>
      intro k hk9 Hp9 lc9 sl9 Mz9 hl9
      refine lv_iload_n hx hb dX0_plunge_2 rfl (lv_at hl9 3 rfl) ?_
      refine lv_bipush (v := 8) hx hb dX0_plunge_3 (by decide) ?_
      refine zn_icmp_ge (a := 0 + (k)) (b := 8) (tgt := 74) (by omega) (by decide) hx hb dX0_plunge_5 (by decide) (fun h => absurd h (by omega)) (fun _ => ?_)
      refine lv_bipush (v := 9) hx hb dX0_plunge_8 (by decide) ?_
      refine lv_iload_n hx hb dX0_plunge_10 rfl (lv_at hl9 2 rfl) ?_
      refine lv_if_eq (tgt := 26) hx hb dX0_plunge_11 (by decide) (fun c_3 => ?_) (fun c_3 => ?_)
      ·
        refine lv_aload_n hx hb dX0_plunge_26 rfl (lv_at hl9 0 rfl) ?_
        refine z_getf Z Mz9 hin0 0 rfl rfl 2 (by decide) L9 rfl (v := .ref a) rfl dX0_plunge_27 ?_
        refine lv_iload_n hx hb dX0_plunge_30 rfl (lv_at hl9 3 rfl) ?_
        refine z_iald Z Mz9 1 (h0 := a) (n := 8) (f := α) rfl (j := 0 + (k)) (by omega) (by decide) dX0_plunge_31 ?_
        refine lv_bipush (v := 10) hx hb dX0_plunge_32 (by decide) ?_
        refine lv_idiv hx hb dX0_plunge_34 (by decide) ?_
        refine va_mmin hx hb (Z.1.2.2.1.trans hl9.1.symm) Z.1.2.2.2.1 (hts (.methodLink RX0 66 Lib.Math.min.name) (by decide +kernel)) (hts (.static Lib.Math.min.name) (by decide +kernel)) (hts (.initialized "java/lang/Math") (by decide +kernel)) (hts (.code Lib.Math.min.name Lib.Math.min.code 2 (some .int)) (by decide +kernel)) (Nat.le_of_ble_eq_true rfl) (Nat.le_of_ble_eq_true rfl) (Nat.zero_le _) (Nat.zero_le _) dX0_plunge_35 ?_
        refine zn_top (y := imin ((α (0 + (k))) / 10) 9) (rfl) ?_
        refine lv_istore (lv' := [(4, .int (imin ((α (0 + (k))) / 10) 9)), (0, .ref h), (1, .int (ld)), (2, .int (md)), (3, .int (nI (0 + (k))))]) hx hb dX0_plunge_38 hl9 (by decide) rfl (fun sl9 hl9 => ?_)
        refine lv_aload_n hx hb dX0_plunge_40 rfl (lv_at hl9 1 rfl) ?_
        refine z_getf Z Mz9 hin0 0 rfl rfl 15 (by decide) L31 rfl (v := .ref q) rfl dX0_plunge_41 ?_
        refine lv_iload_n hx hb dX0_plunge_44 rfl (lv_at hl9 4 rfl) ?_
        refine lv_iconst (v := 0) hx hb dX0_plunge_45 (by decide) ?_
        refine lv_aload_n hx hb dX0_plunge_46 rfl (lv_at hl9 1 rfl) ?_
        refine z_getf Z Mz9 hin0 0 rfl rfl 1 (by decide) L44 rfl (v := .ref u) rfl dX0_plunge_47 ?_
        refine z_getf Z Mz9 hin4 3 rfl rfl 1 (by decide) L121 rfl (v := .int (τ 1)) rfl dX0_plunge_50 ?_
        refine lv_aload_n hx hb dX0_plunge_53 rfl (lv_at hl9 1 rfl) ?_
        refine z_getf Z Mz9 hin0 0 rfl rfl 1 (by decide) L44 rfl (v := .ref u) rfl dX0_plunge_54 ?_
        refine z_getf Z Mz9 hin4 3 rfl rfl 2 (by decide) L126 rfl (v := .int (τ 2)) rfl dX0_plunge_57 ?_
        refine lv_iload hx hb dX0_plunge_60 (lv_at hl9 0 rfl) ?_
        refine lv_imul hx hb dX0_plunge_62 ?_
        refine lv_isub hx hb dX0_plunge_63 ?_
        refine va_mmax hx hb (Z.1.2.2.1.trans hl9.1.symm) Z.1.2.2.2.1 (hts (.methodLink RX0 85 Lib.Math.max.name) (by decide +kernel)) (hts (.static Lib.Math.max.name) (by decide +kernel)) (hts (.initialized "java/lang/Math") (by decide +kernel)) (hts (.code Lib.Math.max.name Lib.Math.max.code 2 (some .int)) (by decide +kernel)) (Nat.le_of_ble_eq_true rfl) (Nat.le_of_ble_eq_true rfl) (Nat.zero_le _) (Nat.zero_le _) dX0_plunge_64 ?_
        refine zn_top (y := if (τ 1) - ((τ 2) * (imin ((α (0 + (k))) / 10) 9)) < 0 then 0 else (τ 1) - ((τ 2) * (imin ((α (0 + (k))) / 10) 9))) (max_low _ _) ?_
        refine z_iast Z Mz9 2 (h0 := q) (n := 8) (f := qQ α κ 0 (τ 1) (τ 2) md (k)) rfl (j := 0 + (k)) (x := if (τ 1) - ((τ 2) * (imin ((α (0 + (k))) / 10) 9)) < 0 then 0 else (τ 1) - ((τ 2) * (imin ((α (0 + (k))) / 10) 9))) (by omega) (by decide) (ws' := biW h a q u T β α (upd (qQ α κ 0 (τ 1) (τ 2) md (k)) (0 + (k)) (if (τ 1) - ((τ 2) * (imin ((α (0 + (k))) / 10) 9)) < 0 then 0 else (τ 1) - ((τ 2) * (imin ((α (0 + (k))) / 10) 9)))) τ) rfl dX0_plunge_67 (fun Hp9 lc9 Mz9 => ?_)
        refine lv_iinc (v := nI ((0 + (k)) + 1)) (lv' := [(3, .int (nI ((0 + (k)) + 1))), (4, .int (imin ((α (0 + (k))) / 10) 9)), (0, .ref h), (1, .int (ld)), (2, .int (md))]) hx hb dX0_plunge_68 hl9 (k := 4) rfl (nI_add (0 + (k)) 1) (by decide) rfl (fun sl9 hl9 => ?_)
        refine lv_goto (tgt := 2) hx hb dX0_plunge_71 (by decide) ?_
        exact ih2 (k + 1) (by omega)  _ _ _ (zM_w (by simp only [qQ, qnum, qval, if_pos c_3]) Mz9) (lv_sub hl9 [2, 3, 4, 0] rfl)
      ·
        refine lv_aload_n hx hb dX0_plunge_14 rfl (lv_at hl9 0 rfl) ?_
        refine z_getf Z Mz9 hin0 0 rfl rfl 2 (by decide) L9 rfl (v := .ref a) rfl dX0_plunge_15 ?_
        refine lv_iload_n hx hb dX0_plunge_18 rfl (lv_at hl9 3 rfl) ?_
        refine z_iald Z Mz9 1 (h0 := a) (n := 8) (f := α) rfl (j := 0 + (k)) (by omega) (by decide) dX0_plunge_19 ?_
        refine lv_bipush (v := 20) hx hb dX0_plunge_20 (by decide) ?_
        refine lv_idiv hx hb dX0_plunge_22 (by decide) ?_
        refine lv_goto (tgt := 35) hx hb dX0_plunge_23 (by decide) ?_
        refine va_mmin hx hb (Z.1.2.2.1.trans hl9.1.symm) Z.1.2.2.2.1 (hts (.methodLink RX0 66 Lib.Math.min.name) (by decide +kernel)) (hts (.static Lib.Math.min.name) (by decide +kernel)) (hts (.initialized "java/lang/Math") (by decide +kernel)) (hts (.code Lib.Math.min.name Lib.Math.min.code 2 (some .int)) (by decide +kernel)) (Nat.le_of_ble_eq_true rfl) (Nat.le_of_ble_eq_true rfl) (Nat.zero_le _) (Nat.zero_le _) dX0_plunge_35 ?_
        refine zn_top (y := imin ((α (0 + (k))) / 20) 9) (rfl) ?_
        refine lv_istore (lv' := [(4, .int (imin ((α (0 + (k))) / 20) 9)), (0, .ref h), (1, .int (ld)), (2, .int (md)), (3, .int (nI (0 + (k))))]) hx hb dX0_plunge_38 hl9 (by decide) rfl (fun sl9 hl9 => ?_)
        refine lv_aload_n hx hb dX0_plunge_40 rfl (lv_at hl9 1 rfl) ?_
        refine z_getf Z Mz9 hin0 0 rfl rfl 15 (by decide) L31 rfl (v := .ref q) rfl dX0_plunge_41 ?_
        refine lv_iload_n hx hb dX0_plunge_44 rfl (lv_at hl9 4 rfl) ?_
        refine lv_iconst (v := 0) hx hb dX0_plunge_45 (by decide) ?_
        refine lv_aload_n hx hb dX0_plunge_46 rfl (lv_at hl9 1 rfl) ?_
        refine z_getf Z Mz9 hin0 0 rfl rfl 1 (by decide) L44 rfl (v := .ref u) rfl dX0_plunge_47 ?_
        refine z_getf Z Mz9 hin4 3 rfl rfl 1 (by decide) L121 rfl (v := .int (τ 1)) rfl dX0_plunge_50 ?_
        refine lv_aload_n hx hb dX0_plunge_53 rfl (lv_at hl9 1 rfl) ?_
        refine z_getf Z Mz9 hin0 0 rfl rfl 1 (by decide) L44 rfl (v := .ref u) rfl dX0_plunge_54 ?_
        refine z_getf Z Mz9 hin4 3 rfl rfl 2 (by decide) L126 rfl (v := .int (τ 2)) rfl dX0_plunge_57 ?_
        refine lv_iload hx hb dX0_plunge_60 (lv_at hl9 0 rfl) ?_
        refine lv_imul hx hb dX0_plunge_62 ?_
        refine lv_isub hx hb dX0_plunge_63 ?_
        refine va_mmax hx hb (Z.1.2.2.1.trans hl9.1.symm) Z.1.2.2.2.1 (hts (.methodLink RX0 85 Lib.Math.max.name) (by decide +kernel)) (hts (.static Lib.Math.max.name) (by decide +kernel)) (hts (.initialized "java/lang/Math") (by decide +kernel)) (hts (.code Lib.Math.max.name Lib.Math.max.code 2 (some .int)) (by decide +kernel)) (Nat.le_of_ble_eq_true rfl) (Nat.le_of_ble_eq_true rfl) (Nat.zero_le _) (Nat.zero_le _) dX0_plunge_64 ?_
        refine zn_top (y := if (τ 1) - ((τ 2) * (imin ((α (0 + (k))) / 20) 9)) < 0 then 0 else (τ 1) - ((τ 2) * (imin ((α (0 + (k))) / 20) 9))) (max_low _ _) ?_
        refine z_iast Z Mz9 2 (h0 := q) (n := 8) (f := qQ α κ 0 (τ 1) (τ 2) md (k)) rfl (j := 0 + (k)) (x := if (τ 1) - ((τ 2) * (imin ((α (0 + (k))) / 20) 9)) < 0 then 0 else (τ 1) - ((τ 2) * (imin ((α (0 + (k))) / 20) 9))) (by omega) (by decide) (ws' := biW h a q u T β α (upd (qQ α κ 0 (τ 1) (τ 2) md (k)) (0 + (k)) (if (τ 1) - ((τ 2) * (imin ((α (0 + (k))) / 20) 9)) < 0 then 0 else (τ 1) - ((τ 2) * (imin ((α (0 + (k))) / 20) 9)))) τ) rfl dX0_plunge_67 (fun Hp9 lc9 Mz9 => ?_)
        refine lv_iinc (v := nI ((0 + (k)) + 1)) (lv' := [(3, .int (nI ((0 + (k)) + 1))), (4, .int (imin ((α (0 + (k))) / 20) 9)), (0, .ref h), (1, .int (ld)), (2, .int (md))]) hx hb dX0_plunge_68 hl9 (k := 4) rfl (nI_add (0 + (k)) 1) (by decide) rfl (fun sl9 hl9 => ?_)
        refine lv_goto (tgt := 2) hx hb dX0_plunge_71 (by decide) ?_
        exact ih2 (k + 1) (by omega)  _ _ _ (zM_w (by simp only [qQ, qnum, qval, if_neg c_3]) Mz9) (lv_sub hl9 [2, 3, 4, 0] rfl)
  exact LP2_1 (8 - 0) (0) (by omega)  _ _ _ (zM_w (by simp only [qQ] <;> rfl) Mz9) (lv_sub hl9 [1, 2, 3, 0] rfl)
