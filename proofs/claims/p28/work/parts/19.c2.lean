/-! ===== laid by program ===== -/
set_option maxHeartbeats 4000000 in
set_option maxRecDepth 100000 in
theorem cb_standInFurnace (l : Launch) (D : va_G) (T : Nat → ClassId) (h a q u : Nat) (β α κ τ : Nat → Int32) (f : Int32) (n : Nat) (hn : n ≤ 200) (hgr : bnd 200 (β 10)) : ZV l yX0_standInFurnace wsX0_standInFurnace (zrm 1 21) D T (biW h a q u T β α κ τ) (biW h a q u T (upd (upd (upd (upd (upd (upd β 4 (hLo f (β 7) 0 α (β 4) (n))) 7 (hSk f (β 7) (n))) 8 (hCo f (β 7) (β 8) (n))) 9 (β 9 + 1)) 10 (hGr f (β 7) (β 8) (β 10) (n))) 14 (-1)) (hAr f (β 7) 0 α (n)) κ τ) [.ref h, .int (f), .int (nI (n))] 0 0 := by
  refine z_inV (cc := cX0_standInFurnace) (maxL := 4) (by decide +kernel) rfl (Nat.le_of_ble_eq_true rfl) ?_
  intro p e s m args below meth c sl9 A Q Z hnm Mz9 hl9 hret
  have Z : zC p s m args c cX0_standInFurnace 4 RX0 wsX0_standInFurnace D T A := Z
  have hx := Z.1.1
  have hb := Z.1.2.1
  have hts := Z.1.2.2.2.2
  have hin0 : ∀ w ∈ wsX00, w ∈ wsX0_standInFurnace := by decide +kernel
  have L57 := hts (.fieldLink RX0 57 "AnvilHouse$Billet" "heats" "I") (by decide +kernel)
  have L28 := hts (.fieldLink RX0 28 "AnvilHouse$Billet" "load" "I") (by decide +kernel)
  have L15 := hts (.fieldLink RX0 15 "AnvilHouse$Billet" "skin" "I") (by decide +kernel)
  have L19 := hts (.fieldLink RX0 19 "AnvilHouse$Billet" "core" "I") (by decide +kernel)
  have L22 := hts (.fieldLink RX0 22 "AnvilHouse$Billet" "grain" "I") (by decide +kernel)
  have hl9 : lv_has sl9 4 [(0, .ref h), (1, .int (f)), (2, .int (nI (n)))] := hl9
  refine lv_aload_n hx hb dX0_standInFurnace_0 rfl (lv_at hl9 0 rfl) ?_
  refine lv_dup hx hb dX0_standInFurnace_1 rfl ?_
  refine z_getf Z Mz9 hin0 0 rfl rfl 9 (by decide) L57 rfl (v := .int (β 9)) rfl dX0_standInFurnace_2 ?_
  refine lv_iconst (v := 1) hx hb dX0_standInFurnace_5 (by decide) ?_
  refine lv_iadd hx hb dX0_standInFurnace_6 ?_
  refine z_putf Z Mz9 hin0 tyX0 tyX0_ok nmX0 0 rfl rfl 9 (by decide) L57 rfl rfl (ty := .int) rfl rfl rfl (Nat.le_of_ble_eq_true rfl) (ws' := biW h a q u T (upd β 9 ((β 9) + 1)) α κ τ) rfl dX0_standInFurnace_7 (fun Hp9 lc9 Mz9 => ?_)
  refine lv_aload_n hx hb dX0_standInFurnace_10 rfl (lv_at hl9 0 rfl) ?_
  refine lv_iconst (v := (-1)) hx hb dX0_standInFurnace_11 (by decide) ?_
  refine z_putf Z Mz9 hin0 tyX0 tyX0_ok nmX0 0 rfl rfl 14 (by decide) L28 rfl rfl (ty := .int) rfl rfl rfl (Nat.le_of_ble_eq_true rfl) (ws' := biW h a q u T (upd (upd β 9 ((β 9) + 1)) 14 (-1)) α κ τ) rfl dX0_standInFurnace_12 (fun Hp9 lc9 Mz9 => ?_)
  refine lv_iconst (v := 1) hx hb dX0_standInFurnace_15 (by decide) ?_
  refine lv_istore_n (lv' := [(3, .int 1), (0, .ref h), (1, .int (f)), (2, .int (nI (n)))]) hx hb dX0_standInFurnace_16 rfl hl9 (by decide) rfl (fun sl9 hl9 => ?_)
  have LP17_1 : ∀ (n17 k : Nat), k + n17 = n → ∀ (Hp9 : Heap) (lc9 : List Loc) (sl9 : Array Slot), zM D A s.heap (biW h a q u T (upd (upd (upd (upd (upd (upd β 4 (hLo f (β 7) 0 α (β 4) (k))) 7 (hSk f (β 7) (k))) 8 (hCo f (β 7) (β 8) (k))) 9 (β 9 + 1)) 10 (hGr f (β 7) (β 8) (β 10) (k))) 14 (-1)) (hAr f (β 7) 0 α (k)) κ τ) Hp9 lc9 → lv_has sl9 4 [(0, .ref h), (1, .int (f)), (2, .int (nI (n))), (3, .int (nI (k + 1)))] → W p l e (zrm 1 21) s m args below meth c Hp9 lc9 0 0 Q (F0 m 17 sl9 []) := by
    intro n17
    induction n17 with
    | zero =>
      intro k hk9 Hp9 lc9 sl9 Mz9 hl9
      obtain rfl : n = k := by omega
      refine lv_iload_n hx hb dX0_standInFurnace_17 rfl (lv_at hl9 3 rfl) ?_
      refine lv_iload_n hx hb dX0_standInFurnace_18 rfl (lv_at hl9 2 rfl) ?_
      refine zn_icmp_gt (a := n + 1) (b := n) (tgt := 102) (by omega) (by omega) hx hb dX0_standInFurnace_19 (by decide) (fun _ => ?_) (fun h => absurd h (by omega))
      exact hret _ _ _ _ _ sl9 _ Mz9 (rfl) (Nat.le_refl _) (Nat.le_refl _) dX0_standInFurnace_102
    | succ n17 ih17 =>
      intro k hk9 Hp9 lc9 sl9 Mz9 hl9
      refine lv_iload_n hx hb dX0_standInFurnace_17 rfl (lv_at hl9 3 rfl) ?_
      refine lv_iload_n hx hb dX0_standInFurnace_18 rfl (lv_at hl9 2 rfl) ?_
      refine zn_icmp_gt (a := k + 1) (b := n) (tgt := 102) (by omega) (by omega) hx hb dX0_standInFurnace_19 (by decide) (fun h => absurd h (by omega)) (fun _ => ?_)
      refine lv_aload_n hx hb dX0_standInFurnace_22 rfl (lv_at hl9 0 rfl) ?_
      refine lv_dup hx hb dX0_standInFurnace_23 rfl ?_
      refine z_getf Z Mz9 hin0 0 rfl rfl 7 (by decide) L15 rfl (v := .int (hSk f (β 7) (k))) rfl dX0_standInFurnace_24 ?_
      refine lv_iload_n hx hb dX0_standInFurnace_27 rfl (lv_at hl9 1 rfl) ?_
      refine lv_aload_n hx hb dX0_standInFurnace_28 rfl (lv_at hl9 0 rfl) ?_
      refine z_getf Z Mz9 hin0 0 rfl rfl 7 (by decide) L15 rfl (v := .int (hSk f (β 7) (k))) rfl dX0_standInFurnace_29 ?_
      refine lv_isub hx hb dX0_standInFurnace_32 ?_
      refine lv_iconst (v := 4) hx hb dX0_standInFurnace_33 (by decide) ?_
      refine lv_idiv hx hb dX0_standInFurnace_34 (by decide) ?_
      refine lv_iadd hx hb dX0_standInFurnace_35 ?_
      refine zn_top (y := hSk f (β 7) (k + 1)) rfl ?_
      refine z_putf Z Mz9 hin0 tyX0 tyX0_ok nmX0 0 rfl rfl 7 (by decide) L15 rfl rfl (ty := .int) rfl rfl rfl (Nat.le_of_ble_eq_true rfl) (ws' := biW h a q u T (upd (upd (upd (upd (upd (upd β 4 (hLo f (β 7) 0 α (β 4) (k))) 7 (hSk f (β 7) (k + 1))) 8 (hCo f (β 7) (β 8) (k))) 9 (β 9 + 1)) 10 (hGr f (β 7) (β 8) (β 10) (k))) 14 (-1)) (hAr f (β 7) 0 α (k)) κ τ) rfl dX0_standInFurnace_36 (fun Hp9 lc9 Mz9 => ?_)
      refine lv_aload_n hx hb dX0_standInFurnace_39 rfl (lv_at hl9 0 rfl) ?_
      refine z_callAv (As := []) (rest := []) (wc' := biW h a q u T (upd (upd (upd (upd (upd (upd β 4 (hLo f (β 7) 0 α (β 4) (k))) 7 (hSk f (β 7) (k + 1))) 8 (wrm (hSk f (β 7) (k + 1)) (hCo f (β 7) (β 8) (k)))) 9 (β 9 + 1)) 10 (hGr f (β 7) (β 8) (β 10) (k))) 14 (-1)) (hAr f (β 7) 0 α (k)) κ τ) Z Mz9 (cb_warmCore l D T h a q u (upd (upd (upd (upd (upd (upd β 4 (hLo f (β 7) 0 α (β 4) (k))) 7 (hSk f (β 7) (k + 1))) 8 (hCo f (β 7) (β 8) (k))) 9 (β 9 + 1)) 10 (hGr f (β 7) (β 8) (β 10) (k))) 14 (-1)) (hAr f (β 7) 0 α (k)) κ τ) (cwV 0 hts gX0_standInFurnace_X0_warmCore rfl rfl rfl (by decide +kernel) ⟨by decide, by decide⟩) (va_recv Z.2.1 Mz9.1 (ci := 1) (q0 := 0) rfl rfl) rfl hl9.1 (Nat.le_of_ble_eq_true rfl) dX0_standInFurnace_40 ⟨by decide, by decide⟩ rfl (fun Hp9 lc9 Mz9 => ?_)
      have Mz9 : zM D A s.heap (biW h a q u T (upd (upd (upd (upd (upd (upd β 4 (hLo f (β 7) 0 α (β 4) (k))) 7 (hSk f (β 7) (k + 1))) 8 (hCo f (β 7) (β 8) (k + 1))) 9 (β 9 + 1)) 10 (hGr f (β 7) (β 8) (β 10) (k))) 14 (-1)) (hAr f (β 7) 0 α (k)) κ τ) _ _ := zM_w (by rfl) Mz9
      refine lv_iload_n hx hb dX0_standInFurnace_43 rfl (lv_at hl9 3 rfl) ?_
      refine lv_iconst (v := 5) hx hb dX0_standInFurnace_44 (by decide) ?_
      refine zn_irem (a := k + 1) (b := 5) (by omega) (by decide) (by decide) hx hb dX0_standInFurnace_45 ?_
      refine zn_if_ne (a := (k + 1) % 5) (tgt := 63) (by omega) hx hb dX0_standInFurnace_46 (by decide) (fun c_1 => ?_) (fun c_1 => ?_)
      ·
        refine lv_iload_n hx hb dX0_standInFurnace_63 rfl (lv_at hl9 3 rfl) ?_
        refine lv_bipush (v := 10) hx hb dX0_standInFurnace_64 (by decide) ?_
        refine zn_irem (a := k + 1) (b := 10) (by omega) (by decide) (by decide) hx hb dX0_standInFurnace_66 ?_
        refine zn_if_ne (a := (k + 1) % 10) (tgt := 96) (by omega) hx hb dX0_standInFurnace_67 (by decide) (fun c_2 => ?_) (fun c_2 => ?_)
        ·
          refine lv_iinc (v := nI ((k + 1) + 1)) (lv' := [(3, .int (nI ((k + 1) + 1))), (0, .ref h), (1, .int (f)), (2, .int (nI (n)))]) hx hb dX0_standInFurnace_96 hl9 (k := 3) rfl (nI_add (k + 1) 1) (by decide) rfl (fun sl9 hl9 => ?_)
          refine lv_goto (tgt := 17) hx hb dX0_standInFurnace_99 (by decide) ?_
          exact ih17 (k + 1) (by omega)  _ _ _ (zM_w (by simp only [hAr, hLo, hGr, if_neg c_1, if_neg c_2]) Mz9) (lv_sub hl9 [1, 2, 3, 0] rfl)
        ·
          refine lv_aload_n hx hb dX0_standInFurnace_70 rfl (lv_at hl9 0 rfl) ?_
          refine z_getf Z Mz9 hin0 0 rfl rfl 8 (by decide) L19 rfl (v := .int (hCo f (β 7) (β 8) (k + 1))) rfl dX0_standInFurnace_71 ?_
          refine lv_sipush (v := 900) hx hb dX0_standInFurnace_74 (by decide) ?_
          refine lv_icmp_lt (tgt := 96) hx hb dX0_standInFurnace_77 (by decide) (fun c_3 => ?_) (fun c_3 => ?_)
          ·
            refine lv_iinc (v := nI ((k + 1) + 1)) (lv' := [(3, .int (nI ((k + 1) + 1))), (0, .ref h), (1, .int (f)), (2, .int (nI (n)))]) hx hb dX0_standInFurnace_96 hl9 (k := 3) rfl (nI_add (k + 1) 1) (by decide) rfl (fun sl9 hl9 => ?_)
            refine lv_goto (tgt := 17) hx hb dX0_standInFurnace_99 (by decide) ?_
            exact ih17 (k + 1) (by omega)  _ _ _ (zM_w (by simp only [hAr, hLo, hGr, if_neg c_1, if_pos c_2, if_pos c_3]) Mz9) (lv_sub hl9 [1, 2, 3, 0] rfl)
          ·
            refine lv_aload_n hx hb dX0_standInFurnace_80 rfl (lv_at hl9 0 rfl) ?_
            refine lv_sipush (v := 200) hx hb dX0_standInFurnace_81 (by decide) ?_
            refine lv_aload_n hx hb dX0_standInFurnace_84 rfl (lv_at hl9 0 rfl) ?_
            refine z_getf Z Mz9 hin0 0 rfl rfl 10 (by decide) L22 rfl (v := .int (hGr f (β 7) (β 8) (β 10) (k))) rfl dX0_standInFurnace_85 ?_
            refine lv_iconst (v := 1) hx hb dX0_standInFurnace_88 (by decide) ?_
            refine lv_iadd hx hb dX0_standInFurnace_89 ?_
            refine va_mmin hx hb (Z.1.2.2.1.trans hl9.1.symm) Z.1.2.2.2.1 (hts (.methodLink RX0 66 Lib.Math.min.name) (by decide +kernel)) (hts (.static Lib.Math.min.name) (by decide +kernel)) (hts (.initialized "java/lang/Math") (by decide +kernel)) (hts (.code Lib.Math.min.name Lib.Math.min.code 2 (some .int)) (by decide +kernel)) (Nat.le_of_ble_eq_true rfl) (Nat.le_of_ble_eq_true rfl) (Nat.zero_le _) (Nat.zero_le _) dX0_standInFurnace_90 ?_
            refine zn_top (y := if hGr f (β 7) (β 8) (β 10) k < 200 then hGr f (β 7) (β 8) (β 10) k + 1 else hGr f (β 7) (β 8) (β 10) k) (by obtain ⟨g9, hg9, eg9⟩ := hGr_le f (β 7) (β 8) hgr k; rw [eg9]; exact gr_min hg9) ?_
            refine z_putf Z Mz9 hin0 tyX0 tyX0_ok nmX0 0 rfl rfl 10 (by decide) L22 rfl rfl (ty := .int) rfl rfl rfl (Nat.le_of_ble_eq_true rfl) (ws' := biW h a q u T (upd (upd (upd (upd (upd (upd β 4 (hLo f (β 7) 0 α (β 4) (k))) 7 (hSk f (β 7) (k + 1))) 8 (hCo f (β 7) (β 8) (k + 1))) 9 (β 9 + 1)) 10 (if hGr f (β 7) (β 8) (β 10) k < 200 then hGr f (β 7) (β 8) (β 10) k + 1 else hGr f (β 7) (β 8) (β 10) k)) 14 (-1)) (hAr f (β 7) 0 α (k)) κ τ) rfl dX0_standInFurnace_93 (fun Hp9 lc9 Mz9 => ?_)
            refine lv_iinc (v := nI ((k + 1) + 1)) (lv' := [(3, .int (nI ((k + 1) + 1))), (0, .ref h), (1, .int (f)), (2, .int (nI (n)))]) hx hb dX0_standInFurnace_96 hl9 (k := 3) rfl (nI_add (k + 1) 1) (by decide) rfl (fun sl9 hl9 => ?_)
            refine lv_goto (tgt := 17) hx hb dX0_standInFurnace_99 (by decide) ?_
            exact ih17 (k + 1) (by omega)  _ _ _ (zM_w (by simp only [hAr, hLo, hGr, if_neg c_1, if_pos c_2, if_neg c_3]) Mz9) (lv_sub hl9 [1, 2, 3, 0] rfl)
      ·
        refine lv_aload_n hx hb dX0_standInFurnace_49 rfl (lv_at hl9 0 rfl) ?_
        refine z_getf Z Mz9 hin0 0 rfl rfl 7 (by decide) L15 rfl (v := .int (hSk f (β 7) (k + 1))) rfl dX0_standInFurnace_50 ?_
        refine lv_sipush (v := 800) hx hb dX0_standInFurnace_53 (by decide) ?_
        refine lv_icmp_lt (tgt := 63) hx hb dX0_standInFurnace_56 (by decide) (fun c_4 => ?_) (fun c_4 => ?_)
        ·
          refine lv_iload_n hx hb dX0_standInFurnace_63 rfl (lv_at hl9 3 rfl) ?_
          refine lv_bipush (v := 10) hx hb dX0_standInFurnace_64 (by decide) ?_
          refine zn_irem (a := k + 1) (b := 10) (by omega) (by decide) (by decide) hx hb dX0_standInFurnace_66 ?_
          refine zn_if_ne (a := (k + 1) % 10) (tgt := 96) (by omega) hx hb dX0_standInFurnace_67 (by decide) (fun c_5 => ?_) (fun c_5 => ?_)
          ·
            refine lv_iinc (v := nI ((k + 1) + 1)) (lv' := [(3, .int (nI ((k + 1) + 1))), (0, .ref h), (1, .int (f)), (2, .int (nI (n)))]) hx hb dX0_standInFurnace_96 hl9 (k := 3) rfl (nI_add (k + 1) 1) (by decide) rfl (fun sl9 hl9 => ?_)
            refine lv_goto (tgt := 17) hx hb dX0_standInFurnace_99 (by decide) ?_
            exact ih17 (k + 1) (by omega)  _ _ _ (zM_w (by simp only [hAr, hLo, hGr, if_pos c_1, if_pos c_4, if_neg c_5]) Mz9) (lv_sub hl9 [1, 2, 3, 0] rfl)
          ·
            refine lv_aload_n hx hb dX0_standInFurnace_70 rfl (lv_at hl9 0 rfl) ?_
            refine z_getf Z Mz9 hin0 0 rfl rfl 8 (by decide) L19 rfl (v := .int (hCo f (β 7) (β 8) (k + 1))) rfl dX0_standInFurnace_71 ?_
            refine lv_sipush (v := 900) hx hb dX0_standInFurnace_74 (by decide) ?_
            refine lv_icmp_lt (tgt := 96) hx hb dX0_standInFurnace_77 (by decide) (fun c_6 => ?_) (fun c_6 => ?_)
            ·
              refine lv_iinc (v := nI ((k + 1) + 1)) (lv' := [(3, .int (nI ((k + 1) + 1))), (0, .ref h), (1, .int (f)), (2, .int (nI (n)))]) hx hb dX0_standInFurnace_96 hl9 (k := 3) rfl (nI_add (k + 1) 1) (by decide) rfl (fun sl9 hl9 => ?_)
              refine lv_goto (tgt := 17) hx hb dX0_standInFurnace_99 (by decide) ?_
              exact ih17 (k + 1) (by omega)  _ _ _ (zM_w (by simp only [hAr, hLo, hGr, if_pos c_1, if_pos c_4, if_pos c_5, if_pos c_6]) Mz9) (lv_sub hl9 [1, 2, 3, 0] rfl)
            ·
              refine lv_aload_n hx hb dX0_standInFurnace_80 rfl (lv_at hl9 0 rfl) ?_
              refine lv_sipush (v := 200) hx hb dX0_standInFurnace_81 (by decide) ?_
              refine lv_aload_n hx hb dX0_standInFurnace_84 rfl (lv_at hl9 0 rfl) ?_
              refine z_getf Z Mz9 hin0 0 rfl rfl 10 (by decide) L22 rfl (v := .int (hGr f (β 7) (β 8) (β 10) (k))) rfl dX0_standInFurnace_85 ?_
              refine lv_iconst (v := 1) hx hb dX0_standInFurnace_88 (by decide) ?_
              refine lv_iadd hx hb dX0_standInFurnace_89 ?_
              refine va_mmin hx hb (Z.1.2.2.1.trans hl9.1.symm) Z.1.2.2.2.1 (hts (.methodLink RX0 66 Lib.Math.min.name) (by decide +kernel)) (hts (.static Lib.Math.min.name) (by decide +kernel)) (hts (.initialized "java/lang/Math") (by decide +kernel)) (hts (.code Lib.Math.min.name Lib.Math.min.code 2 (some .int)) (by decide +kernel)) (Nat.le_of_ble_eq_true rfl) (Nat.le_of_ble_eq_true rfl) (Nat.zero_le _) (Nat.zero_le _) dX0_standInFurnace_90 ?_
              refine zn_top (y := if hGr f (β 7) (β 8) (β 10) k < 200 then hGr f (β 7) (β 8) (β 10) k + 1 else hGr f (β 7) (β 8) (β 10) k) (by obtain ⟨g9, hg9, eg9⟩ := hGr_le f (β 7) (β 8) hgr k; rw [eg9]; exact gr_min hg9) ?_
              refine z_putf Z Mz9 hin0 tyX0 tyX0_ok nmX0 0 rfl rfl 10 (by decide) L22 rfl rfl (ty := .int) rfl rfl rfl (Nat.le_of_ble_eq_true rfl) (ws' := biW h a q u T (upd (upd (upd (upd (upd (upd β 4 (hLo f (β 7) 0 α (β 4) (k))) 7 (hSk f (β 7) (k + 1))) 8 (hCo f (β 7) (β 8) (k + 1))) 9 (β 9 + 1)) 10 (if hGr f (β 7) (β 8) (β 10) k < 200 then hGr f (β 7) (β 8) (β 10) k + 1 else hGr f (β 7) (β 8) (β 10) k)) 14 (-1)) (hAr f (β 7) 0 α (k)) κ τ) rfl dX0_standInFurnace_93 (fun Hp9 lc9 Mz9 => ?_)
              refine lv_iinc (v := nI ((k + 1) + 1)) (lv' := [(3, .int (nI ((k + 1) + 1))), (0, .ref h), (1, .int (f)), (2, .int (nI (n)))]) hx hb dX0_standInFurnace_96 hl9 (k := 3) rfl (nI_add (k + 1) 1) (by decide) rfl (fun sl9 hl9 => ?_)
              refine lv_goto (tgt := 17) hx hb dX0_standInFurnace_99 (by decide) ?_
              exact ih17 (k + 1) (by omega)  _ _ _ (zM_w (by simp only [hAr, hLo, hGr, if_pos c_1, if_pos c_4, if_pos c_5, if_neg c_6]) Mz9) (lv_sub hl9 [1, 2, 3, 0] rfl)
        ·
          refine lv_aload_n hx hb dX0_standInFurnace_59 rfl (lv_at hl9 0 rfl) ?_
          refine z_callAv (As := []) (rest := []) (wc' := biW h a q u T (upd (upd (upd (upd (upd (upd β 4 (SN (hAr f (β 7) 0 α (k)) 0 (hLo f (β 7) 0 α (β 4) (k)))) 7 (hSk f (β 7) (k + 1))) 8 (hCo f (β 7) (β 8) (k + 1))) 9 (β 9 + 1)) 10 (hGr f (β 7) (β 8) (β 10) (k))) 14 (-1)) (SA (hAr f (β 7) 0 α (k)) 0) κ τ) Z Mz9 (cb_loseScale l D T h a q u (upd (upd (upd (upd (upd (upd β 4 (hLo f (β 7) 0 α (β 4) (k))) 7 (hSk f (β 7) (k + 1))) 8 (hCo f (β 7) (β 8) (k + 1))) 9 (β 9 + 1)) 10 (hGr f (β 7) (β 8) (β 10) (k))) 14 (-1)) (hAr f (β 7) 0 α (k)) κ τ) (cwV 0 hts gX0_standInFurnace_X0_loseScale rfl rfl rfl (by decide +kernel) ⟨by decide, by decide⟩) (va_recv Z.2.1 Mz9.1 (ci := 1) (q0 := 0) rfl rfl) rfl hl9.1 (Nat.le_of_ble_eq_true rfl) dX0_standInFurnace_60 ⟨by decide, by decide⟩ rfl (fun Hp9 lc9 Mz9 => ?_)
          refine lv_iload_n hx hb dX0_standInFurnace_63 rfl (lv_at hl9 3 rfl) ?_
          refine lv_bipush (v := 10) hx hb dX0_standInFurnace_64 (by decide) ?_
          refine zn_irem (a := k + 1) (b := 10) (by omega) (by decide) (by decide) hx hb dX0_standInFurnace_66 ?_
          refine zn_if_ne (a := (k + 1) % 10) (tgt := 96) (by omega) hx hb dX0_standInFurnace_67 (by decide) (fun c_7 => ?_) (fun c_7 => ?_)
          ·
            refine lv_iinc (v := nI ((k + 1) + 1)) (lv' := [(3, .int (nI ((k + 1) + 1))), (0, .ref h), (1, .int (f)), (2, .int (nI (n)))]) hx hb dX0_standInFurnace_96 hl9 (k := 3) rfl (nI_add (k + 1) 1) (by decide) rfl (fun sl9 hl9 => ?_)
            refine lv_goto (tgt := 17) hx hb dX0_standInFurnace_99 (by decide) ?_
            exact ih17 (k + 1) (by omega)  _ _ _ (zM_w (by simp only [hAr, hLo, hGr, if_pos c_1, if_neg c_4, if_neg c_7]) Mz9) (lv_sub hl9 [1, 2, 3, 0] rfl)
          ·
            refine lv_aload_n hx hb dX0_standInFurnace_70 rfl (lv_at hl9 0 rfl) ?_
            refine z_getf Z Mz9 hin0 0 rfl rfl 8 (by decide) L19 rfl (v := .int (hCo f (β 7) (β 8) (k + 1))) rfl dX0_standInFurnace_71 ?_
            refine lv_sipush (v := 900) hx hb dX0_standInFurnace_74 (by decide) ?_
            refine lv_icmp_lt (tgt := 96) hx hb dX0_standInFurnace_77 (by decide) (fun c_8 => ?_) (fun c_8 => ?_)
            ·
              refine lv_iinc (v := nI ((k + 1) + 1)) (lv' := [(3, .int (nI ((k + 1) + 1))), (0, .ref h), (1, .int (f)), (2, .int (nI (n)))]) hx hb dX0_standInFurnace_96 hl9 (k := 3) rfl (nI_add (k + 1) 1) (by decide) rfl (fun sl9 hl9 => ?_)
              refine lv_goto (tgt := 17) hx hb dX0_standInFurnace_99 (by decide) ?_
              exact ih17 (k + 1) (by omega)  _ _ _ (zM_w (by simp only [hAr, hLo, hGr, if_pos c_1, if_neg c_4, if_pos c_7, if_pos c_8]) Mz9) (lv_sub hl9 [1, 2, 3, 0] rfl)
            ·
              refine lv_aload_n hx hb dX0_standInFurnace_80 rfl (lv_at hl9 0 rfl) ?_
              refine lv_sipush (v := 200) hx hb dX0_standInFurnace_81 (by decide) ?_
              refine lv_aload_n hx hb dX0_standInFurnace_84 rfl (lv_at hl9 0 rfl) ?_
              refine z_getf Z Mz9 hin0 0 rfl rfl 10 (by decide) L22 rfl (v := .int (hGr f (β 7) (β 8) (β 10) (k))) rfl dX0_standInFurnace_85 ?_
              refine lv_iconst (v := 1) hx hb dX0_standInFurnace_88 (by decide) ?_
              refine lv_iadd hx hb dX0_standInFurnace_89 ?_
              refine va_mmin hx hb (Z.1.2.2.1.trans hl9.1.symm) Z.1.2.2.2.1 (hts (.methodLink RX0 66 Lib.Math.min.name) (by decide +kernel)) (hts (.static Lib.Math.min.name) (by decide +kernel)) (hts (.initialized "java/lang/Math") (by decide +kernel)) (hts (.code Lib.Math.min.name Lib.Math.min.code 2 (some .int)) (by decide +kernel)) (Nat.le_of_ble_eq_true rfl) (Nat.le_of_ble_eq_true rfl) (Nat.zero_le _) (Nat.zero_le _) dX0_standInFurnace_90 ?_
              refine zn_top (y := if hGr f (β 7) (β 8) (β 10) k < 200 then hGr f (β 7) (β 8) (β 10) k + 1 else hGr f (β 7) (β 8) (β 10) k) (by obtain ⟨g9, hg9, eg9⟩ := hGr_le f (β 7) (β 8) hgr k; rw [eg9]; exact gr_min hg9) ?_
              refine z_putf Z Mz9 hin0 tyX0 tyX0_ok nmX0 0 rfl rfl 10 (by decide) L22 rfl rfl (ty := .int) rfl rfl rfl (Nat.le_of_ble_eq_true rfl) (ws' := biW h a q u T (upd (upd (upd (upd (upd (upd β 4 (SN (hAr f (β 7) 0 α (k)) 0 (hLo f (β 7) 0 α (β 4) (k)))) 7 (hSk f (β 7) (k + 1))) 8 (hCo f (β 7) (β 8) (k + 1))) 9 (β 9 + 1)) 10 (if hGr f (β 7) (β 8) (β 10) k < 200 then hGr f (β 7) (β 8) (β 10) k + 1 else hGr f (β 7) (β 8) (β 10) k)) 14 (-1)) (SA (hAr f (β 7) 0 α (k)) 0) κ τ) rfl dX0_standInFurnace_93 (fun Hp9 lc9 Mz9 => ?_)
              refine lv_iinc (v := nI ((k + 1) + 1)) (lv' := [(3, .int (nI ((k + 1) + 1))), (0, .ref h), (1, .int (f)), (2, .int (nI (n)))]) hx hb dX0_standInFurnace_96 hl9 (k := 3) rfl (nI_add (k + 1) 1) (by decide) rfl (fun sl9 hl9 => ?_)
              refine lv_goto (tgt := 17) hx hb dX0_standInFurnace_99 (by decide) ?_
              exact ih17 (k + 1) (by omega)  _ _ _ (zM_w (by simp only [hAr, hLo, hGr, if_pos c_1, if_neg c_4, if_pos c_7, if_neg c_8]) Mz9) (lv_sub hl9 [1, 2, 3, 0] rfl)
  exact LP17_1 (n - 0) (0) (by omega)  _ _ _ (zM_w (by simp only [hSk, hCo, hAr, hLo, hGr] <;> rfl) Mz9) (lv_sub hl9 [1, 2, 3, 0] rfl)
set_option maxHeartbeats 4000000 in
set_option maxRecDepth 100000 in
theorem cb_hardnessAt (l : Launch) (D : va_G) (T : Nat → ClassId) (h a q u : Nat) (β α κ τ : Nat → Int32) (j : Nat) (hj : j < 8) : ZI l yX0_hardnessAt wsX0_hardnessAt (zrm 1 21) D T (biW h a q u T β α κ τ) (biW h a q u T β α κ τ) [.ref h, .int (nI (j))] (if β 14 = -1 then 0 else hrc (κ j) (β 16)) 0 0 := by
  refine z_inI (cc := cX0_hardnessAt) (maxL := 2) (rt := .int) (by decide +kernel) rfl (Nat.le_of_ble_eq_true rfl) ?_
  intro p e s m args below meth c sl9 A Q Z hnm Mz9 hl9 hret
  have Z : zC p s m args c cX0_hardnessAt 2 RX0 wsX0_hardnessAt D T A := Z
  have hx := Z.1.1
  have hb := Z.1.2.1
  have hts := Z.1.2.2.2.2
  have hin0 : ∀ w ∈ wsX00, w ∈ wsX0_hardnessAt := by decide +kernel
  have L28 := hts (.fieldLink RX0 28 "AnvilHouse$Billet" "load" "I") (by decide +kernel)
  have L31 := hts (.fieldLink RX0 31 "AnvilHouse$Billet" "quenched" "[I") (by decide +kernel)
  have L34 := hts (.fieldLink RX0 34 "AnvilHouse$Billet" "tempered" "I") (by decide +kernel)
  have hl9 : lv_has sl9 2 [(0, .ref h), (1, .int (nI (j)))] := hl9
  refine lv_aload_n hx hb dX0_hardnessAt_0 rfl (lv_at hl9 0 rfl) ?_
  refine z_getf Z Mz9 hin0 0 rfl rfl 14 (by decide) L28 rfl (v := .int (β 14)) rfl dX0_hardnessAt_1 ?_
  refine lv_iconst (v := (-1)) hx hb dX0_hardnessAt_4 (by decide) ?_
  refine lv_icmp_ne (tgt := 10) hx hb dX0_hardnessAt_5 (by decide) (fun c_1 => ?_) (fun c_1 => ?_)
  ·
    refine lv_iconst (v := 0) hx hb dX0_hardnessAt_10 (by decide) ?_
    refine lv_aload_n hx hb dX0_hardnessAt_11 rfl (lv_at hl9 0 rfl) ?_
    refine z_getf Z Mz9 hin0 0 rfl rfl 15 (by decide) L31 rfl (v := .ref q) rfl dX0_hardnessAt_12 ?_
    refine lv_iload_n hx hb dX0_hardnessAt_15 rfl (lv_at hl9 1 rfl) ?_
    refine z_iald Z Mz9 2 (h0 := q) (n := 8) (f := κ) rfl (j := j) (by omega) (by decide) dX0_hardnessAt_16 ?_
    refine lv_aload_n hx hb dX0_hardnessAt_17 rfl (lv_at hl9 0 rfl) ?_
    refine z_getf Z Mz9 hin0 0 rfl rfl 16 (by decide) L34 rfl (v := .int (β 16)) rfl dX0_hardnessAt_18 ?_
    refine lv_bipush (v := 100) hx hb dX0_hardnessAt_21 (by decide) ?_
    refine lv_isub hx hb dX0_hardnessAt_23 ?_
    refine lv_bipush (v := 20) hx hb dX0_hardnessAt_24 (by decide) ?_
    refine lv_idiv hx hb dX0_hardnessAt_26 (by decide) ?_
    refine lv_isub hx hb dX0_hardnessAt_27 ?_
    refine va_mmax hx hb (Z.1.2.2.1.trans hl9.1.symm) Z.1.2.2.2.1 (hts (.methodLink RX0 85 Lib.Math.max.name) (by decide +kernel)) (hts (.static Lib.Math.max.name) (by decide +kernel)) (hts (.initialized "java/lang/Math") (by decide +kernel)) (hts (.code Lib.Math.max.name Lib.Math.max.code 2 (some .int)) (by decide +kernel)) (Nat.le_of_ble_eq_true rfl) (Nat.le_of_ble_eq_true rfl) (Nat.zero_le _) (Nat.zero_le _) dX0_hardnessAt_28 ?_
    exact hret _ _ _ _ _ sl9 _ _ Mz9 (rfl) (by simp only [hrc, if_neg c_1]) (rfl) (Nat.le_refl _) (Nat.le_refl _) dX0_hardnessAt_31
  ·
    refine lv_iconst (v := 0) hx hb dX0_hardnessAt_8 (by decide) ?_
    exact hret _ _ _ _ _ sl9 _ _ Mz9 (rfl) (by simp only [hrc, if_pos c_1]) (rfl) (Nat.le_refl _) (Nat.le_refl _) dX0_hardnessAt_9
set_option maxHeartbeats 4000000 in
set_option maxRecDepth 100000 in
theorem cb_leastHardness (l : Launch) (D : va_G) (T : Nat → ClassId) (h a q u : Nat) (β α κ τ : Nat → Int32)  : ZI l yX0_leastHardness wsX0_leastHardness (zrm 2 42) D T (biW h a q u T β α κ τ) (biW h a q u T β α κ τ) [.ref h] (LH (fun j => if β 14 = -1 then 0 else hrc (κ j) (β 16))) 0 0 := by
  simp only [LH_eq]
  refine z_inI (cc := cX0_leastHardness) (maxL := 3) (rt := .int) (by decide +kernel) rfl (Nat.le_of_ble_eq_true rfl) ?_
  intro p e s m args below meth c sl9 A Q Z hnm Mz9 hl9 hret
  have Z : zC p s m args c cX0_leastHardness 3 RX0 wsX0_leastHardness D T A := Z
  have hx := Z.1.1
  have hb := Z.1.2.1
  have hts := Z.1.2.2.2.2
  have hin0 : ∀ w ∈ wsX00, w ∈ wsX0_leastHardness := by decide +kernel
  have hl9 : lv_has sl9 3 [(0, .ref h)] := hl9
  refine lv_aload_n hx hb dX0_leastHardness_0 rfl (lv_at hl9 0 rfl) ?_
  refine lv_iconst (v := 0) hx hb dX0_leastHardness_1 (by decide) ?_
  refine z_callAi (As := [.int 0]) (rest := []) (rv := if β 14 = -1 then 0 else hrc (κ 0) (β 16)) (wc' := biW h a q u T β α κ τ) Z Mz9 (cb_hardnessAt l D T h a q u β α κ τ (0) (by omega)) (cwV 1 hts gX0_leastHardness_X0_hardnessAt rfl rfl rfl (by decide +kernel) ⟨by decide, by decide⟩) (va_recv Z.2.1 Mz9.1 (ci := 1) (q0 := 0) rfl rfl) rfl hl9.1 (Nat.le_of_ble_eq_true rfl) dX0_leastHardness_2 ⟨by decide, by decide⟩ rfl (fun Hp9 lc9 Mz9 => ?_)
  refine lv_istore_n (lv' := [(1, .int (if β 14 = -1 then 0 else hrc (κ 0) (β 16))), (0, .ref h)]) hx hb dX0_leastHardness_5 rfl hl9 (by decide) rfl (fun sl9 hl9 => ?_)
  refine lv_iconst (v := 1) hx hb dX0_leastHardness_6 (by decide) ?_
  refine lv_istore_n (lv' := [(2, .int 1), (1, .int (if β 14 = -1 then 0 else hrc (κ 0) (β 16))), (0, .ref h)]) hx hb dX0_leastHardness_7 rfl hl9 (by decide) rfl (fun sl9 hl9 => ?_)
  have LP8_1 : ∀ (n8 k : Nat), k + n8 = 7 → ∀ (Hp9 : Heap) (lc9 : List Loc) (sl9 : Array Slot), zM D A s.heap (biW h a q u T β α κ τ) Hp9 lc9 → lv_has sl9 3 [(0, .ref h), (1, .int (lhc (fun j => if β 14 = -1 then 0 else hrc (κ j) (β 16)) (k))), (2, .int (nI (k + 1)))] → W p l e (zrm 2 42) s m args below meth c Hp9 lc9 0 0 Q (F0 m 8 sl9 []) := by
    intro n8
    induction n8 with
    | zero =>
      intro k hk9 Hp9 lc9 sl9 Mz9 hl9
      obtain rfl : 7 = k := by omega
      refine lv_iload_n hx hb dX0_leastHardness_8 rfl (lv_at hl9 2 rfl) ?_
      refine lv_bipush (v := 8) hx hb dX0_leastHardness_9 (by decide) ?_
      refine zn_icmp_ge (a := 7 + 1) (b := 8) (tgt := 30) (by omega) (by decide) hx hb dX0_leastHardness_11 (by decide) (fun _ => ?_) (fun h => absurd h (by omega))
      refine lv_iload_n hx hb dX0_leastHardness_30 rfl (lv_at hl9 1 rfl) ?_
      exact hret _ _ _ _ _ sl9 _ _ Mz9 (rfl) (rfl) (rfl) (Nat.le_refl _) (Nat.le_refl _) dX0_leastHardness_31
    | succ n8 ih8 =>
      intro k hk9 Hp9 lc9 sl9 Mz9 hl9
      refine lv_iload_n hx hb dX0_leastHardness_8 rfl (lv_at hl9 2 rfl) ?_
      refine lv_bipush (v := 8) hx hb dX0_leastHardness_9 (by decide) ?_
      refine zn_icmp_ge (a := k + 1) (b := 8) (tgt := 30) (by omega) (by decide) hx hb dX0_leastHardness_11 (by decide) (fun h => absurd h (by omega)) (fun _ => ?_)
      refine lv_iload_n hx hb dX0_leastHardness_14 rfl (lv_at hl9 1 rfl) ?_
      refine lv_aload_n hx hb dX0_leastHardness_15 rfl (lv_at hl9 0 rfl) ?_
      refine lv_iload_n hx hb dX0_leastHardness_16 rfl (lv_at hl9 2 rfl) ?_
      refine z_callAi (As := [.int (nI (k + 1))]) (rest := [.int (lhc (fun j => if β 14 = -1 then 0 else hrc (κ j) (β 16)) (k))]) (rv := if β 14 = -1 then 0 else hrc (κ (k + 1)) (β 16)) (wc' := biW h a q u T β α κ τ) Z Mz9 (cb_hardnessAt l D T h a q u β α κ τ (k + 1) (by omega)) (cwV 1 hts gX0_leastHardness_X0_hardnessAt rfl rfl rfl (by decide +kernel) ⟨by decide, by decide⟩) (va_recv Z.2.1 Mz9.1 (ci := 1) (q0 := 0) rfl rfl) rfl hl9.1 (Nat.le_of_ble_eq_true rfl) dX0_leastHardness_17 ⟨by decide, by decide⟩ rfl (fun Hp9 lc9 Mz9 => ?_)
      refine va_mmin hx hb (Z.1.2.2.1.trans hl9.1.symm) Z.1.2.2.2.1 (hts (.methodLink RX0 66 Lib.Math.min.name) (by decide +kernel)) (hts (.static Lib.Math.min.name) (by decide +kernel)) (hts (.initialized "java/lang/Math") (by decide +kernel)) (hts (.code Lib.Math.min.name Lib.Math.min.code 2 (some .int)) (by decide +kernel)) (Nat.le_of_ble_eq_true rfl) (Nat.le_of_ble_eq_true rfl) (Nat.zero_le _) (Nat.zero_le _) dX0_leastHardness_20 ?_
      refine zn_top (y := lhc (fun j => if β 14 = -1 then 0 else hrc (κ j) (β 16)) (k + 1)) (rfl) ?_
      refine lv_istore_n (lv' := [(1, .int (lhc (fun j => if β 14 = -1 then 0 else hrc (κ j) (β 16)) (k + 1))), (0, .ref h), (2, .int (nI (k + 1)))]) hx hb dX0_leastHardness_23 rfl hl9 (by decide) rfl (fun sl9 hl9 => ?_)
      refine lv_iinc (v := nI ((k + 1) + 1)) (lv' := [(2, .int (nI ((k + 1) + 1))), (1, .int (lhc (fun j => if β 14 = -1 then 0 else hrc (κ j) (β 16)) (k + 1))), (0, .ref h)]) hx hb dX0_leastHardness_24 hl9 (k := 2) rfl (nI_add (k + 1) 1) (by decide) rfl (fun sl9 hl9 => ?_)
      refine lv_goto (tgt := 8) hx hb dX0_leastHardness_27 (by decide) ?_
      exact ih8 (k + 1) (by omega)  _ _ _ Mz9 (lv_sub hl9 [2, 1, 0] rfl)
  exact LP8_1 (7 - 0) (0) (by omega)  _ _ _ Mz9 (lv_sub hl9 [2, 1, 0] rfl)
set_option maxHeartbeats 4000000 in
set_option maxRecDepth 100000 in
theorem cb_wearBy (l : Launch) (D : va_G) (T : Nat → ClassId) (h a q u d da : Nat) (β α κ τ : Nat → Int32) (lf : Int32) (γ : Nat → Int32) (w9 : Int32) : ZV l yX1_wearBy wsX1_wearBy (zrm 1 21) D T (bidW h a q u d da T β α κ τ lf γ) (bidW h a q u d da T β α κ τ (if 0 < lf - w9 then lf - w9 else 0) γ) [.ref d, .int (w9)] 0 0 := by
  refine z_inV (cc := cX1_wearBy) (maxL := 2) (by decide +kernel) rfl (Nat.le_of_ble_eq_true rfl) ?_
  intro p e s m args below meth c sl9 A Q Z hnm Mz9 hl9 hret
  have Z : zC p s m args c cX1_wearBy 2 RX1 wsX1_wearBy D T A := Z
  have hx := Z.1.1
  have hb := Z.1.2.1
  have hts := Z.1.2.2.2.2
  have hin1 : ∀ w ∈ wsX10, w ∈ wsX1_wearBy := by decide +kernel
  have L15 := hts (.fieldLink RX1 15 "AnvilHouse$Die" "life" "I") (by decide +kernel)
  have hl9 : lv_has sl9 2 [(0, .ref d), (1, .int (w9))] := hl9
  refine lv_aload_n hx hb dX1_wearBy_0 rfl (lv_at hl9 0 rfl) ?_
  refine lv_iconst (v := 0) hx hb dX1_wearBy_1 (by decide) ?_
  refine lv_aload_n hx hb dX1_wearBy_2 rfl (lv_at hl9 0 rfl) ?_
  refine z_getf Z Mz9 hin1 4 rfl rfl 1 (by decide) L15 rfl (v := .int (lf)) rfl dX1_wearBy_3 ?_
  refine lv_iload_n hx hb dX1_wearBy_6 rfl (lv_at hl9 1 rfl) ?_
  refine lv_isub hx hb dX1_wearBy_7 ?_
  refine va_mmax hx hb (Z.1.2.2.1.trans hl9.1.symm) Z.1.2.2.2.1 (hts (.methodLink RX1 25 Lib.Math.max.name) (by decide +kernel)) (hts (.static Lib.Math.max.name) (by decide +kernel)) (hts (.initialized "java/lang/Math") (by decide +kernel)) (hts (.code Lib.Math.max.name Lib.Math.max.code 2 (some .int)) (by decide +kernel)) (Nat.le_of_ble_eq_true rfl) (Nat.le_of_ble_eq_true rfl) (Nat.zero_le _) (Nat.zero_le _) dX1_wearBy_8 ?_
  refine z_putf Z Mz9 hin1 tyX1 tyX1_ok nmX1 4 rfl rfl 1 (by decide) L15 rfl rfl (ty := .int) rfl rfl rfl (Nat.le_of_ble_eq_true rfl) (ws' := bidW h a q u d da T β α κ τ (if 0 < (lf - w9) then (lf - w9) else 0) γ) rfl dX1_wearBy_11 (fun Hp9 lc9 Mz9 => ?_)
  exact hret _ _ _ _ _ sl9 _ Mz9 (rfl) (Nat.le_refl _) (Nat.le_refl _) dX1_wearBy_14
set_option maxHeartbeats 4000000 in
set_option maxRecDepth 100000 in
theorem cb_hasMoreAt (l : Launch) (D : va_G) (T : Nat → ClassId) (h a q u d da : Nat) (β α κ τ : Nat → Int32) (lf : Int32) (γ : Nat → Int32) (j : Nat) (hj : j < 8) : ZI l yX0_hasMoreAt wsX0_hasMoreAt (zrm 0 0) D T (bidW h a q u d da T β α κ τ lf γ) (bidW h a q u d da T β α κ τ lf γ) [.ref h, .ref d, .int (nI (j))] (if γ j < α j then 1 else 0) 0 0 := by
  refine z_inI (cc := cX0_hasMoreAt) (maxL := 3) (rt := .boolean) (by decide +kernel) rfl (Nat.le_of_ble_eq_true rfl) ?_
  intro p e s m args below meth c sl9 A Q Z hnm Mz9 hl9 hret
  have Z : zC p s m args c cX0_hasMoreAt 3 RX0 wsX0_hasMoreAt D T A := Z
  have hx := Z.1.1
  have hb := Z.1.2.1
  have hts := Z.1.2.2.2.2
  have hin0 : ∀ w ∈ wsX00, w ∈ wsX0_hasMoreAt := by decide +kernel
  have hin1 : ∀ w ∈ wsX10, w ∈ wsX0_hasMoreAt := by decide +kernel
  have L9 := hts (.fieldLink RX0 9 "AnvilHouse$Billet" "areas" "[I") (by decide +kernel)
  have L109 := hts (.fieldLink RX0 109 "AnvilHouse$Die" "areas" "[I") (by decide +kernel)
  have hl9 : lv_has sl9 3 [(0, .ref h), (1, .ref d), (2, .int (nI (j)))] := hl9
  refine lv_iload_n hx hb dX0_hasMoreAt_0 rfl (lv_at hl9 2 rfl) ?_
  refine zn_if_lt (a := j) (tgt := 29) (by omega) hx hb dX0_hasMoreAt_1 (by decide) (fun h => absurd h (fun h => h)) (fun _ => ?_)
  refine lv_iload_n hx hb dX0_hasMoreAt_4 rfl (lv_at hl9 2 rfl) ?_
  refine lv_bipush (v := 8) hx hb dX0_hasMoreAt_5 (by decide) ?_
  refine zn_icmp_ge (a := j) (b := 8) (tgt := 29) (by omega) (by decide) hx hb dX0_hasMoreAt_7 (by decide) (fun h => absurd h (by omega)) (fun _ => ?_)
  refine lv_aload_n hx hb dX0_hasMoreAt_10 rfl (lv_at hl9 0 rfl) ?_
  refine z_getf Z Mz9 hin0 0 rfl rfl 2 (by decide) L9 rfl (v := .ref a) rfl dX0_hasMoreAt_11 ?_
  refine lv_iload_n hx hb dX0_hasMoreAt_14 rfl (lv_at hl9 2 rfl) ?_
  refine z_iald Z Mz9 1 (h0 := a) (n := 8) (f := α) rfl (j := j) (by omega) (by decide) dX0_hasMoreAt_15 ?_
  refine lv_aload_n hx hb dX0_hasMoreAt_16 rfl (lv_at hl9 1 rfl) ?_
  refine z_getf Z Mz9 hin1 4 rfl rfl 0 (by decide) L109 rfl (v := .ref da) rfl dX0_hasMoreAt_17 ?_
  refine lv_iload_n hx hb dX0_hasMoreAt_20 rfl (lv_at hl9 2 rfl) ?_
  refine z_iald Z Mz9 5 (h0 := da) (n := 8) (f := γ) rfl (j := j) (by omega) (by decide) dX0_hasMoreAt_21 ?_
  refine lv_icmp_le (tgt := 29) hx hb dX0_hasMoreAt_22 (by decide) (fun c_1 => ?_) (fun c_1 => ?_)
  ·
    refine lv_iconst (v := 0) hx hb dX0_hasMoreAt_29 (by decide) ?_
    exact hret _ _ _ _ _ sl9 _ _ Mz9 (rfl) (by simp only [if_neg (Int32.not_lt.mpr c_1)]) (rfl) (Nat.le_refl _) (Nat.le_refl _) dX0_hasMoreAt_30
  ·
    refine lv_iconst (v := 1) hx hb dX0_hasMoreAt_25 (by decide) ?_
    refine lv_goto (tgt := 30) hx hb dX0_hasMoreAt_26 (by decide) ?_
    exact hret _ _ _ _ _ sl9 _ _ Mz9 (rfl) (by simp only [if_pos (Int32.not_le.mp c_1)]) (rfl) (Nat.le_refl _) (Nat.le_refl _) dX0_hasMoreAt_30
set_option maxHeartbeats 4000000 in
set_option maxRecDepth 100000 in
theorem cb_hasMoreAt_out (l : Launch) (D : va_G) (T : Nat → ClassId) (h a q u d da : Nat) (β α κ τ : Nat → Int32) (lf : Int32) (γ : Nat → Int32) (v : Int32) (hv : v < 0 ∨ 8 ≤ v) : ZI l yX0_hasMoreAt wsX0_hasMoreAt (zrm 0 0) D T (bidW h a q u d da T β α κ τ lf γ) (bidW h a q u d da T β α κ τ lf γ) [.ref h, .ref d, .int (v)] (0) 0 0 := by
  refine z_inI (cc := cX0_hasMoreAt) (maxL := 3) (rt := .boolean) (by decide +kernel) rfl (Nat.le_of_ble_eq_true rfl) ?_
  intro p e s m args below meth c sl9 A Q Z hnm Mz9 hl9 hret
  have Z : zC p s m args c cX0_hasMoreAt 3 RX0 wsX0_hasMoreAt D T A := Z
  have hx := Z.1.1
  have hb := Z.1.2.1
  have hts := Z.1.2.2.2.2
  have hin0 : ∀ w ∈ wsX00, w ∈ wsX0_hasMoreAt := by decide +kernel
  have hin1 : ∀ w ∈ wsX10, w ∈ wsX0_hasMoreAt := by decide +kernel
  have L9 := hts (.fieldLink RX0 9 "AnvilHouse$Billet" "areas" "[I") (by decide +kernel)
  have L109 := hts (.fieldLink RX0 109 "AnvilHouse$Die" "areas" "[I") (by decide +kernel)
  have hl9 : lv_has sl9 3 [(0, .ref h), (1, .ref d), (2, .int (v))] := hl9
  refine lv_iload_n hx hb dX0_hasMoreAt_0 rfl (lv_at hl9 2 rfl) ?_
  refine lv_if_lt (tgt := 29) hx hb dX0_hasMoreAt_1 (by decide) (fun c_1 => ?_) (fun c_1 => ?_)
  ·
    refine lv_iconst (v := 0) hx hb dX0_hasMoreAt_29 (by decide) ?_
    exact hret _ _ _ _ _ sl9 _ _ Mz9 (rfl) (rfl) (rfl) (Nat.le_refl _) (Nat.le_refl _) dX0_hasMoreAt_30
  ·
    refine lv_iload_n hx hb dX0_hasMoreAt_4 rfl (lv_at hl9 2 rfl) ?_
    refine lv_bipush (v := 8) hx hb dX0_hasMoreAt_5 (by decide) ?_
    refine lv_icmp_ge (tgt := 29) hx hb dX0_hasMoreAt_7 (by decide) (fun _ => ?_) (fun h => absurd h (fun h => h (hv.resolve_left c_1)))
    refine lv_iconst (v := 0) hx hb dX0_hasMoreAt_29 (by decide) ?_
    exact hret _ _ _ _ _ sl9 _ _ Mz9 (rfl) (rfl) (rfl) (Nat.le_refl _) (Nat.le_refl _) dX0_hasMoreAt_30
set_option maxHeartbeats 4000000 in
set_option maxRecDepth 100000 in
theorem cb_countBelow (l : Launch) (D : va_G) (T : Nat → ClassId) (h a q u d da : Nat) (β α κ τ : Nat → Int32) (lf : Int32) (γ : Nat → Int32)  : ZI l yX0_countBelow wsX0_countBelow (zrm 0 0) D T (bidW h a q u d da T β α κ τ lf γ) (bidW h a q u d da T β α κ τ lf γ) [.ref h, .ref d] (CL γ α) 0 0 := by
  simp only [CL_eq]
  refine z_inI (cc := cX0_countBelow) (maxL := 4) (rt := .int) (by decide +kernel) rfl (Nat.le_of_ble_eq_true rfl) ?_
  intro p e s m args below meth c sl9 A Q Z hnm Mz9 hl9 hret
  have Z : zC p s m args c cX0_countBelow 4 RX0 wsX0_countBelow D T A := Z
  have hx := Z.1.1
  have hb := Z.1.2.1
  have hts := Z.1.2.2.2.2
  have hin0 : ∀ w ∈ wsX00, w ∈ wsX0_countBelow := by decide +kernel
  have hin1 : ∀ w ∈ wsX10, w ∈ wsX0_countBelow := by decide +kernel
  have L9 := hts (.fieldLink RX0 9 "AnvilHouse$Billet" "areas" "[I") (by decide +kernel)
  have L109 := hts (.fieldLink RX0 109 "AnvilHouse$Die" "areas" "[I") (by decide +kernel)
  have hl9 : lv_has sl9 4 [(0, .ref h), (1, .ref d)] := hl9
  refine lv_iconst (v := 0) hx hb dX0_countBelow_0 (by decide) ?_
  refine lv_istore_n (lv' := [(2, .int 0), (0, .ref h), (1, .ref d)]) hx hb dX0_countBelow_1 rfl hl9 (by decide) rfl (fun sl9 hl9 => ?_)
  refine lv_iconst (v := 0) hx hb dX0_countBelow_2 (by decide) ?_
  refine lv_istore_n (lv' := [(3, .int 0), (2, .int 0), (0, .ref h), (1, .ref d)]) hx hb dX0_countBelow_3 rfl hl9 (by decide) rfl (fun sl9 hl9 => ?_)
  have LP4_1 : ∀ (n4 k : Nat), k + n4 = 8 → ∀ (Hp9 : Heap) (lc9 : List Loc) (sl9 : Array Slot), zM D A s.heap (bidW h a q u d da T β α κ τ lf γ) Hp9 lc9 → lv_has sl9 4 [(0, .ref h), (1, .ref d), (2, .int (cbl γ α (k))), (3, .int (nI (0 + (k))))] → W p l e (zrm 0 0) s m args below meth c Hp9 lc9 0 0 Q (F0 m 4 sl9 []) := by
    intro n4
    induction n4 with
    | zero =>
      intro k hk9 Hp9 lc9 sl9 Mz9 hl9
      obtain rfl : 8 = k := by omega
      refine lv_iload_n hx hb dX0_countBelow_4 rfl (lv_at hl9 3 rfl) ?_
      refine lv_bipush (v := 8) hx hb dX0_countBelow_5 (by decide) ?_
      refine zn_icmp_ge (a := 0 + (8)) (b := 8) (tgt := 34) (by omega) (by decide) hx hb dX0_countBelow_7 (by decide) (fun _ => ?_) (fun h => absurd h (by omega))
      refine lv_iload_n hx hb dX0_countBelow_34 rfl (lv_at hl9 2 rfl) ?_
      exact hret _ _ _ _ _ sl9 _ _ Mz9 (rfl) (rfl) (rfl) (Nat.le_refl _) (Nat.le_refl _) dX0_countBelow_35
    | succ n4 ih4 =>
      intro k hk9 Hp9 lc9 sl9 Mz9 hl9
      refine lv_iload_n hx hb dX0_countBelow_4 rfl (lv_at hl9 3 rfl) ?_
      refine lv_bipush (v := 8) hx hb dX0_countBelow_5 (by decide) ?_
      refine zn_icmp_ge (a := 0 + (k)) (b := 8) (tgt := 34) (by omega) (by decide) hx hb dX0_countBelow_7 (by decide) (fun h => absurd h (by omega)) (fun _ => ?_)
      refine lv_aload_n hx hb dX0_countBelow_10 rfl (lv_at hl9 0 rfl) ?_
      refine z_getf Z Mz9 hin0 0 rfl rfl 2 (by decide) L9 rfl (v := .ref a) rfl dX0_countBelow_11 ?_
      refine lv_iload_n hx hb dX0_countBelow_14 rfl (lv_at hl9 3 rfl) ?_
      refine z_iald Z Mz9 1 (h0 := a) (n := 8) (f := α) rfl (j := 0 + (k)) (by omega) (by decide) dX0_countBelow_15 ?_
      refine lv_aload_n hx hb dX0_countBelow_16 rfl (lv_at hl9 1 rfl) ?_
      refine z_getf Z Mz9 hin1 4 rfl rfl 0 (by decide) L109 rfl (v := .ref da) rfl dX0_countBelow_17 ?_
      refine lv_iload_n hx hb dX0_countBelow_20 rfl (lv_at hl9 3 rfl) ?_
      refine z_iald Z Mz9 5 (h0 := da) (n := 8) (f := γ) rfl (j := 0 + (k)) (by omega) (by decide) dX0_countBelow_21 ?_
      refine lv_icmp_ge (tgt := 28) hx hb dX0_countBelow_22 (by decide) (fun c_1 => ?_) (fun c_1 => ?_)
      ·
        refine lv_iinc (v := nI ((0 + (k)) + 1)) (lv' := [(3, .int (nI ((0 + (k)) + 1))), (0, .ref h), (1, .ref d), (2, .int (cbl γ α (k)))]) hx hb dX0_countBelow_28 hl9 (k := 3) rfl (nI_add (0 + (k)) 1) (by decide) rfl (fun sl9 hl9 => ?_)
        refine lv_goto (tgt := 4) hx hb dX0_countBelow_31 (by decide) ?_
        exact ih4 (k + 1) (by omega)  _ _ _ Mz9 (lv_w (show ([(0, .ref h), (1, .ref d), (2, .int (cbl γ α (k))), (3, .int (nI ((0 + (k)) + 1)))] : List (Nat × Value)) = [(0, .ref h), (1, .ref d), (2, .int (cbl γ α (k + 1))), (3, .int (nI (0 + (k + 1))))] from by simp only [cbl, if_neg (Int32.not_lt.mpr c_1)] <;> rfl) (lv_sub hl9 [1, 2, 3, 0] rfl))
      ·
        refine lv_iinc (v := (cbl γ α (k)) + 1) (lv' := [(2, .int ((cbl γ α (k)) + 1)), (0, .ref h), (1, .ref d), (3, .int (nI (0 + (k))))]) hx hb dX0_countBelow_25 hl9 (k := 2) rfl (rfl) (by decide) rfl (fun sl9 hl9 => ?_)
        refine lv_iinc (v := nI ((0 + (k)) + 1)) (lv' := [(3, .int (nI ((0 + (k)) + 1))), (2, .int ((cbl γ α (k)) + 1)), (0, .ref h), (1, .ref d)]) hx hb dX0_countBelow_28 hl9 (k := 3) rfl (nI_add (0 + (k)) 1) (by decide) rfl (fun sl9 hl9 => ?_)
        refine lv_goto (tgt := 4) hx hb dX0_countBelow_31 (by decide) ?_
        exact ih4 (k + 1) (by omega)  _ _ _ Mz9 (lv_w (show ([(0, .ref h), (1, .ref d), (2, .int ((cbl γ α (k)) + 1)), (3, .int (nI ((0 + (k)) + 1)))] : List (Nat × Value)) = [(0, .ref h), (1, .ref d), (2, .int (cbl γ α (k + 1))), (3, .int (nI (0 + (k + 1))))] from by simp only [cbl, if_pos (Int32.not_le.mp c_1)] <;> rfl) (lv_sub hl9 [2, 3, 1, 0] rfl))
  exact LP4_1 (8 - 0) (0) (by omega)  _ _ _ Mz9 (lv_sub hl9 [2, 3, 1, 0] rfl)
set_option maxHeartbeats 4000000 in
set_option maxRecDepth 100000 in
theorem cb_cutFlash (l : Launch) (D : va_G) (T : Nat → ClassId) (h a q u d da : Nat) (β α κ τ : Nat → Int32) (lf : Int32) (γ : Nat → Int32)  : ZV l yX0_cutFlash wsX0_cutFlash (zrm 0 0) D T (bidW h a q u d da T β α κ τ lf γ) (bidW h a q u d da T (upd β 5 (KX γ α (β 5))) (KA γ α) κ τ lf γ) [.ref h, .ref d] 0 0 := by
  simp only [KA_eq, KX_eq]
  refine z_inV (cc := cX0_cutFlash) (maxL := 3) (by decide +kernel) rfl (Nat.le_of_ble_eq_true rfl) ?_
  intro p e s m args below meth c sl9 A Q Z hnm Mz9 hl9 hret
  have Z : zC p s m args c cX0_cutFlash 3 RX0 wsX0_cutFlash D T A := Z
  have hx := Z.1.1
  have hb := Z.1.2.1
  have hts := Z.1.2.2.2.2
  have hin0 : ∀ w ∈ wsX00, w ∈ wsX0_cutFlash := by decide +kernel
  have hin1 : ∀ w ∈ wsX10, w ∈ wsX0_cutFlash := by decide +kernel
  have L118 := hts (.fieldLink RX0 118 "AnvilHouse$Billet" "flash" "I") (by decide +kernel)
  have L9 := hts (.fieldLink RX0 9 "AnvilHouse$Billet" "areas" "[I") (by decide +kernel)
  have L109 := hts (.fieldLink RX0 109 "AnvilHouse$Die" "areas" "[I") (by decide +kernel)
  have hl9 : lv_has sl9 3 [(0, .ref h), (1, .ref d)] := hl9
  refine lv_iconst (v := 0) hx hb dX0_cutFlash_0 (by decide) ?_
  refine lv_istore_n (lv' := [(2, .int 0), (0, .ref h), (1, .ref d)]) hx hb dX0_cutFlash_1 rfl hl9 (by decide) rfl (fun sl9 hl9 => ?_)
  have LP2_1 : ∀ (n2 k : Nat), k + n2 = 8 → ∀ (Hp9 : Heap) (lc9 : List Loc) (sl9 : Array Slot), zM D A s.heap (bidW h a q u d da T (upd β 5 (flX γ α (β 5) (k))) (flK γ α (k)) κ τ lf γ) Hp9 lc9 → lv_has sl9 3 [(0, .ref h), (1, .ref d), (2, .int (nI (0 + (k))))] → W p l e (zrm 0 0) s m args below meth c Hp9 lc9 0 0 Q (F0 m 2 sl9 []) := by
    intro n2
    induction n2 with
    | zero =>
      intro k hk9 Hp9 lc9 sl9 Mz9 hl9
      obtain rfl : 8 = k := by omega
      refine lv_iload_n hx hb dX0_cutFlash_2 rfl (lv_at hl9 2 rfl) ?_
      refine lv_bipush (v := 8) hx hb dX0_cutFlash_3 (by decide) ?_
      refine zn_icmp_ge (a := 0 + (8)) (b := 8) (tgt := 48) (by omega) (by decide) hx hb dX0_cutFlash_5 (by decide) (fun _ => ?_) (fun h => absurd h (by omega))
      exact hret _ _ _ _ _ sl9 _ Mz9 (rfl) (Nat.le_refl _) (Nat.le_refl _) dX0_cutFlash_48
    | succ n2 ih2 =>
      intro k hk9 Hp9 lc9 sl9 Mz9 hl9
      refine lv_iload_n hx hb dX0_cutFlash_2 rfl (lv_at hl9 2 rfl) ?_
      refine lv_bipush (v := 8) hx hb dX0_cutFlash_3 (by decide) ?_
      refine zn_icmp_ge (a := 0 + (k)) (b := 8) (tgt := 48) (by omega) (by decide) hx hb dX0_cutFlash_5 (by decide) (fun h => absurd h (by omega)) (fun _ => ?_)
      refine lv_aload_n hx hb dX0_cutFlash_8 rfl (lv_at hl9 0 rfl) ?_
      refine lv_dup hx hb dX0_cutFlash_9 rfl ?_
      refine z_getf Z Mz9 hin0 0 rfl rfl 5 (by decide) L118 rfl (v := .int (flX γ α (β 5) (k))) rfl dX0_cutFlash_10 ?_
      refine lv_aload_n hx hb dX0_cutFlash_13 rfl (lv_at hl9 0 rfl) ?_
      refine z_getf Z Mz9 hin0 0 rfl rfl 2 (by decide) L9 rfl (v := .ref a) rfl dX0_cutFlash_14 ?_
      refine lv_iload_n hx hb dX0_cutFlash_17 rfl (lv_at hl9 2 rfl) ?_
      refine z_iald Z Mz9 1 (h0 := a) (n := 8) (f := flK γ α (k)) rfl (j := 0 + (k)) (by omega) (by decide) dX0_cutFlash_18 ?_
      refine lv_aload_n hx hb dX0_cutFlash_19 rfl (lv_at hl9 1 rfl) ?_
      refine z_getf Z Mz9 hin1 4 rfl rfl 0 (by decide) L109 rfl (v := .ref da) rfl dX0_cutFlash_20 ?_
      refine lv_iload_n hx hb dX0_cutFlash_23 rfl (lv_at hl9 2 rfl) ?_
      refine z_iald Z Mz9 5 (h0 := da) (n := 8) (f := γ) rfl (j := 0 + (k)) (by omega) (by decide) dX0_cutFlash_24 ?_
      refine lv_isub hx hb dX0_cutFlash_25 ?_
      refine lv_iadd hx hb dX0_cutFlash_26 ?_
      refine z_putf Z Mz9 hin0 tyX0 tyX0_ok nmX0 0 rfl rfl 5 (by decide) L118 rfl rfl (ty := .int) rfl rfl rfl (Nat.le_of_ble_eq_true rfl) (ws' := bidW h a q u d da T (upd β 5 ((flX γ α (β 5) (k)) + (((flK γ α (k)) (0 + (k))) - (γ (0 + (k)))))) (flK γ α (k)) κ τ lf γ) rfl dX0_cutFlash_27 (fun Hp9 lc9 Mz9 => ?_)
      refine lv_aload_n hx hb dX0_cutFlash_30 rfl (lv_at hl9 0 rfl) ?_
      refine z_getf Z Mz9 hin0 0 rfl rfl 2 (by decide) L9 rfl (v := .ref a) rfl dX0_cutFlash_31 ?_
      refine lv_iload_n hx hb dX0_cutFlash_34 rfl (lv_at hl9 2 rfl) ?_
      refine lv_aload_n hx hb dX0_cutFlash_35 rfl (lv_at hl9 1 rfl) ?_
      refine z_getf Z Mz9 hin1 4 rfl rfl 0 (by decide) L109 rfl (v := .ref da) rfl dX0_cutFlash_36 ?_
      refine lv_iload_n hx hb dX0_cutFlash_39 rfl (lv_at hl9 2 rfl) ?_
      refine z_iald Z Mz9 5 (h0 := da) (n := 8) (f := γ) rfl (j := 0 + (k)) (by omega) (by decide) dX0_cutFlash_40 ?_
      refine z_iast Z Mz9 1 (h0 := a) (n := 8) (f := flK γ α (k)) rfl (j := 0 + (k)) (x := γ (0 + (k))) (by omega) (by decide) (ws' := bidW h a q u d da T (upd β 5 ((flX γ α (β 5) (k)) + (((flK γ α (k)) (0 + (k))) - (γ (0 + (k)))))) (upd (flK γ α (k)) (0 + (k)) (γ (0 + (k)))) κ τ lf γ) rfl dX0_cutFlash_41 (fun Hp9 lc9 Mz9 => ?_)
      refine lv_iinc (v := nI ((0 + (k)) + 1)) (lv' := [(2, .int (nI ((0 + (k)) + 1))), (0, .ref h), (1, .ref d)]) hx hb dX0_cutFlash_42 hl9 (k := 2) rfl (nI_add (0 + (k)) 1) (by decide) rfl (fun sl9 hl9 => ?_)
      refine lv_goto (tgt := 2) hx hb dX0_cutFlash_45 (by decide) ?_
      exact ih2 (k + 1) (by omega)  _ _ _ Mz9 (lv_sub hl9 [1, 2, 0] rfl)
  exact LP2_1 (8 - 0) (0) (by omega)  _ _ _ Mz9 (lv_sub hl9 [1, 2, 0] rfl)
