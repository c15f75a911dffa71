/-! ===== laid by program ===== -/
set_option maxHeartbeats 4000000 in
set_option maxRecDepth 100000 in
theorem cb_flowInto (l : Launch) (D : va_G) (T : Nat → ClassId) (h a q u d da : Nat) (β α κ τ : Nat → Int32) (lf : Int32) (γ : Nat → Int32) (m9 : Nat) (hm : m9 < 2 ^ 31) (Bd : Nat) (hB : Bd < 2 ^ 30) (hf : ∀ x, x < 8 → bnd Bd (α x)) (hg : ∀ x, x < 8 → bnd Bd (γ x)) : ZV l yX0_flowInto wsX0_flowInto (zrm 2 45) D T (bidW h a q u d da T β α κ τ lf γ) (bidW h a q u d da T β (FM γ m9 α) κ τ lf γ) [.ref h, .ref d, .int (nI (m9))] 0 0 := by
  simp only [FM_eq]
  refine z_inV (cc := cX0_flowInto) (maxL := 6) (by decide +kernel) rfl (Nat.le_of_ble_eq_true rfl) ?_
  intro p e s m args below meth c sl9 A Q Z hnm Mz9 hl9 hret
  have Z : zC p s m args c cX0_flowInto 6 RX0 wsX0_flowInto D T A := Z
  have hx := Z.1.1
  have hb := Z.1.2.1
  have hts := Z.1.2.2.2.2
  have hin0 : ∀ w ∈ wsX00, w ∈ wsX0_flowInto := by decide +kernel
  have hin1 : ∀ w ∈ wsX10, w ∈ wsX0_flowInto := by decide +kernel
  have L9 := hts (.fieldLink RX0 9 "AnvilHouse$Billet" "areas" "[I") (by decide +kernel)
  have L109 := hts (.fieldLink RX0 109 "AnvilHouse$Die" "areas" "[I") (by decide +kernel)
  have hl9 : lv_has sl9 6 [(0, .ref h), (1, .ref d), (2, .int (nI (m9)))] := hl9
  refine lv_iload_n hx hb dX0_flowInto_0 rfl (lv_at hl9 2 rfl) ?_
  refine lv_istore_n (lv' := [(3, .int (nI (m9))), (0, .ref h), (1, .ref d), (2, .int (nI (m9)))]) hx hb dX0_flowInto_1 rfl hl9 (by decide) rfl (fun sl9 hl9 => ?_)
  refine lv_iconst (v := 0) hx hb dX0_flowInto_2 (by decide) ?_
  refine lv_istore (lv' := [(4, .int 0), (3, .int (nI (m9))), (0, .ref h), (1, .ref d), (2, .int (nI (m9)))]) hx hb dX0_flowInto_3 hl9 (by decide) rfl (fun sl9 hl9 => ?_)
  have LP5_1 : ∀ (n5 k : Nat) (f9 : Nat → Int32) (l9 : Nat), k + n5 = 8 → (∀ mm : Nat, k + mm = 8 → fls0 γ 8 m9 α = fls0 γ mm l9 f9) → l9 ≤ m9 → (∀ x, x < 8 → bnd Bd (f9 x)) → ∀ (Hp9 : Heap) (lc9 : List Loc) (sl9 : Array Slot), zM D A s.heap (bidW h a q u d da T β f9 κ τ lf γ) Hp9 lc9 → lv_has sl9 6 [(0, .ref h), (1, .ref d), (2, .int (nI (m9))), (3, .int (nI (l9))), (4, .int (nI (k)))] → W p l e (zrm 2 45) s m args below meth c Hp9 lc9 0 0 Q (F0 m 5 sl9 []) := by
    intro n5
    induction n5 with
    | zero =>
      intro k f9 l9 hk9 h60 h61 h62 Hp9 lc9 sl9 Mz9 hl9
      obtain rfl : 8 = k := by omega
      refine lv_iload hx hb dX0_flowInto_5 (lv_at hl9 4 rfl) ?_
      refine lv_bipush (v := 8) hx hb dX0_flowInto_7 (by decide) ?_
      refine zn_icmp_ge (a := 8) (b := 8) (tgt := 83) (by omega) (by decide) hx hb dX0_flowInto_9 (by decide) (fun _ => ?_) (fun h => absurd h (by omega))
      exact hret _ _ _ _ _ sl9 _ Mz9 (by rw [h60 0 (by omega)]; rfl) (Nat.le_refl _) (Nat.le_refl _) dX0_flowInto_83
    | succ n5 ih5 =>
      intro k f9 l9 hk9 h60 h61 h62 Hp9 lc9 sl9 Mz9 hl9
      refine lv_iload hx hb dX0_flowInto_5 (lv_at hl9 4 rfl) ?_
      refine lv_bipush (v := 8) hx hb dX0_flowInto_7 (by decide) ?_
      refine zn_icmp_ge (a := k) (b := 8) (tgt := 83) (by omega) (by decide) hx hb dX0_flowInto_9 (by decide) (fun h => absurd h (by omega)) (fun _ => ?_)
      have LP12_1 : ∀ (lk : Nat) (f8 : Nat → Int32), flo0 γ k l9 f9 = flo0 γ k (lk) f8 → lk ≤ m9 → (∀ x, x < 8 → bnd Bd (f8 x)) → ∀ (Hp9 : Heap) (lc9 : List Loc) (sl9 : Array Slot), zM D A s.heap (bidW h a q u d da T β f8 κ τ lf γ) Hp9 lc9 → lv_has sl9 6 [(0, .ref h), (1, .ref d), (2, .int (nI (m9))), (3, .int (nI (lk))), (4, .int (nI (k)))] → W p l e (zrm 2 45) s m args below meth c Hp9 lc9 0 0 Q (F0 m 12 sl9 []) := by
        intro lk
        induction lk with
        | zero =>
          intro f8 h230 h231 h232 Hp9 lc9 sl9 Mz9 hl9
          refine lv_iload_n hx hb dX0_flowInto_12 rfl (lv_at hl9 3 rfl) ?_
          refine zn_if_le (a := 0) (tgt := 77) (by omega) hx hb dX0_flowInto_13 (by decide) (fun _ => ?_) (fun h => absurd h (by decide))
          refine lv_iinc (v := nI (k + 1)) (lv' := [(4, .int (nI (k + 1))), (0, .ref h), (1, .ref d), (2, .int (nI (m9))), (3, .int (nI (0)))]) hx hb dX0_flowInto_77 hl9 (k := 4) rfl (nI_add (k) 1) (by decide) rfl (fun sl9 hl9 => ?_)
          refine lv_goto (tgt := 5) hx hb dX0_flowInto_80 (by decide) ?_
          exact ih5 (k + 1) f8 0 (by omega) (fun mm hmm => by rw [h60 (mm + 1) (by omega), fls0, show 7 - mm = k by omega, h230, flo0]) (by omega) (h232) _ _ _ Mz9 (lv_sub hl9 [1, 2, 3, 4, 0] rfl)
        | succ lk ih12 =>
          intro f8 h230 h231 h232 Hp9 lc9 sl9 Mz9 hl9
          refine lv_iload_n hx hb dX0_flowInto_12 rfl (lv_at hl9 3 rfl) ?_
          refine zn_if_le (a := lk + 1) (tgt := 77) (by omega) hx hb dX0_flowInto_13 (by decide) (fun h => absurd h (by omega)) (fun _ => ?_)
          refine lv_aload_n hx hb dX0_flowInto_16 rfl (lv_at hl9 0 rfl) ?_
          refine z_getf Z Mz9 hin0 0 rfl rfl 2 (by decide) L9 rfl (v := .ref a) rfl dX0_flowInto_17 ?_
          refine lv_iload hx hb dX0_flowInto_20 (lv_at hl9 4 rfl) ?_
          refine z_iald Z Mz9 1 (h0 := a) (n := 8) (f := f8) rfl (j := k) (by omega) (by decide) dX0_flowInto_22 ?_
          refine lv_aload_n hx hb dX0_flowInto_23 rfl (lv_at hl9 1 rfl) ?_
          refine z_getf Z Mz9 hin1 4 rfl rfl 0 (by decide) L109 rfl (v := .ref da) rfl dX0_flowInto_24 ?_
          refine lv_iload hx hb dX0_flowInto_27 (lv_at hl9 4 rfl) ?_
          refine z_iald Z Mz9 5 (h0 := da) (n := 8) (f := γ) rfl (j := k) (by omega) (by decide) dX0_flowInto_29 ?_
          refine lv_icmp_ge (tgt := 77) hx hb dX0_flowInto_30 (by decide) (fun c_1 => ?_) (fun c_1 => ?_)
          ·
            refine lv_iinc (v := nI (k + 1)) (lv' := [(4, .int (nI (k + 1))), (0, .ref h), (1, .ref d), (2, .int (nI (m9))), (3, .int (nI (lk + 1)))]) hx hb dX0_flowInto_77 hl9 (k := 4) rfl (nI_add (k) 1) (by decide) rfl (fun sl9 hl9 => ?_)
            refine lv_goto (tgt := 5) hx hb dX0_flowInto_80 (by decide) ?_
            exact ih5 (k + 1) f8 (lk + 1) (by omega) (fun mm hmm => by rw [h60 (mm + 1) (by omega), fls0, show 7 - mm = k by omega, h230, flo0_stop (fun z => absurd ((ov0_pos hB h232 hg (x := k) (by omega)).2.mp z) (Int32.not_lt.mpr c_1))]) (by omega) (h232) _ _ _ Mz9 (lv_sub hl9 [1, 2, 3, 4, 0] rfl)
          ·
            refine lv_aload_n hx hb dX0_flowInto_33 rfl (lv_at hl9 0 rfl) ?_
            refine lv_aload_n hx hb dX0_flowInto_34 rfl (lv_at hl9 1 rfl) ?_
            refine lv_iload hx hb dX0_flowInto_35 (lv_at hl9 4 rfl) ?_
            refine z_callAi (As := [.ref d, .int (nI (k))]) (rest := []) (rv := GV (ov0 f8 γ) (k)) (wc' := bidW h a q u d da T β f8 κ τ lf γ) Z Mz9 (cb_nearestAbove l D T h a q u d da β f8 κ τ lf γ (k) (by omega) Bd hB h232 hg) (cwV 2 hts gX0_flowInto_X0_nearestAbove rfl rfl rfl (by decide +kernel) ⟨by decide, by decide⟩) (va_recv Z.2.1 Mz9.1 (ci := 1) (q0 := 0) rfl rfl) rfl hl9.1 (Nat.le_of_ble_eq_true rfl) dX0_flowInto_37 ⟨by decide, by decide⟩ rfl (fun Hp9 lc9 Mz9 => ?_)
            refine lv_istore (lv' := [(5, .int (GV (ov0 f8 γ) (k))), (0, .ref h), (1, .ref d), (2, .int (nI (m9))), (3, .int (nI (lk + 1))), (4, .int (nI (k)))]) hx hb dX0_flowInto_40 hl9 (by decide) rfl (fun sl9 hl9 => ?_)
            refine lv_iload hx hb dX0_flowInto_42 (lv_at hl9 0 rfl) ?_
            refine lv_iconst (v := (-1)) hx hb dX0_flowInto_44 (by decide) ?_
            refine lv_icmp_ne (tgt := 49) hx hb dX0_flowInto_45 (by decide) (fun c_2 => ?_) (fun c_2 => ?_)
            ·
              obtain ⟨qq, hq, hqk, hq0, eq9⟩ := (GV_cases (ov0 f8 γ) k (by omega)).resolve_left c_2
              have hl9 : lv_has sl9 6 [(5, .int (nI (qq))), (0, .ref h), (1, .ref d), (2, .int (nI (m9))), (3, .int (nI (lk + 1))), (4, .int (nI (k)))] := lv_w (show ([(5, .int (GV (ov0 f8 γ) (k))), (0, .ref h), (1, .ref d), (2, .int (nI (m9))), (3, .int (nI (lk + 1))), (4, .int (nI (k)))] : List (Nat × Value)) = [(5, .int (nI (qq))), (0, .ref h), (1, .ref d), (2, .int (nI (m9))), (3, .int (nI (lk + 1))), (4, .int (nI (k)))] from by rw [eq9]) hl9
              have hov : ov0 f8 γ k < 0 := (ov0_pos hB h232 hg (x := k) (by omega)).2.mpr (Int32.not_le.mp c_1)
              have hgq := (ov0_pos hB h232 hg (x := qq) hq).1.mp hq0
              refine lv_aload_n hx hb dX0_flowInto_49 rfl (lv_at hl9 1 rfl) ?_
              refine z_getf Z Mz9 hin0 0 rfl rfl 2 (by decide) L9 rfl (v := .ref a) rfl dX0_flowInto_50 ?_
              refine lv_iload hx hb dX0_flowInto_53 (lv_at hl9 0 rfl) ?_
              refine lv_dup2_11 hx hb dX0_flowInto_55 rfl rfl ?_
              refine z_iald Z Mz9 1 (h0 := a) (n := 8) (f := f8) rfl (j := qq) (by omega) (by decide) dX0_flowInto_56 ?_
              refine lv_iconst (v := 1) hx hb dX0_flowInto_57 (by decide) ?_
              refine lv_isub hx hb dX0_flowInto_58 ?_
              refine z_iast Z Mz9 1 (h0 := a) (n := 8) (f := f8) rfl (j := qq) (x := (f8 qq) - 1) (by omega) (by decide) (ws' := bidW h a q u d da T β (upd f8 qq ((f8 qq) - 1)) κ τ lf γ) rfl dX0_flowInto_59 (fun Hp9 lc9 Mz9 => ?_)
              refine lv_aload_n hx hb dX0_flowInto_60 rfl (lv_at hl9 1 rfl) ?_
              refine z_getf Z Mz9 hin0 0 rfl rfl 2 (by decide) L9 rfl (v := .ref a) rfl dX0_flowInto_61 ?_
              refine lv_iload hx hb dX0_flowInto_64 (lv_at hl9 5 rfl) ?_
              refine lv_dup2_11 hx hb dX0_flowInto_66 rfl rfl ?_
              refine z_iald Z Mz9 1 (h0 := a) (n := 8) (f := upd f8 qq ((f8 qq) - 1)) rfl (j := k) (by omega) (by decide) dX0_flowInto_67 ?_
              refine lv_iconst (v := 1) hx hb dX0_flowInto_68 (by decide) ?_
              refine lv_iadd hx hb dX0_flowInto_69 ?_
              refine z_iast Z Mz9 1 (h0 := a) (n := 8) (f := upd f8 qq ((f8 qq) - 1)) rfl (j := k) (x := ((upd f8 qq ((f8 qq) - 1)) k) + 1) (by omega) (by decide) (ws' := bidW h a q u d da T β (upd (upd f8 qq ((f8 qq) - 1)) k (((upd f8 qq ((f8 qq) - 1)) k) + 1)) κ τ lf γ) rfl dX0_flowInto_70 (fun Hp9 lc9 Mz9 => ?_)
              refine lv_iinc (v := nI (lk)) (lv' := [(3, .int (nI (lk))), (5, .int (nI (qq))), (0, .ref h), (1, .ref d), (2, .int (nI (m9))), (4, .int (nI (k)))]) hx hb dX0_flowInto_71 hl9 (k := 4) rfl (z_pred (by omega)) (by decide) rfl (fun sl9 hl9 => ?_)
              refine lv_goto (tgt := 12) hx hb dX0_flowInto_74 (by decide) ?_
              exact ih12 (upd (upd f8 qq ((f8 qq) - 1)) k (((upd f8 qq ((f8 qq) - 1)) k) + 1)) (by rw [h230, flo0, if_neg c_2, if_pos hov, eq9, nI_clamp (by omega)]) (by omega) (bnd_move hB h232 hg hq (by omega) hqk hgq (Int32.not_le.mp c_1)) _ _ _ Mz9 (lv_sub hl9 [2, 3, 4, 0, 5] rfl)
            ·
              exact hret _ _ _ _ _ sl9 _ Mz9 (by rw [h60 (n5 + 1) (by omega), fls0, show 7 - n5 = k by omega, h230, flo0, if_pos c_2]; simp only [fls0_stuck (GV_none (by omega) c_2 (fun z => absurd ((ov0_pos hB h232 hg (x := k) (by omega)).1.mp z) (Int32.not_lt.mpr (Int32.le_of_lt (Int32.not_le.mp c_1))))) n5 _ (by omega)]) (Nat.le_refl _) (Nat.le_refl _) dX0_flowInto_48
      exact LP12_1 l9 f9 (rfl) (h61) (h62) _ _ _ Mz9 (lv_sub hl9 [0, 1, 2, 3, 4] rfl)
  exact LP5_1 (8 - 0) (0) α m9 (by omega) (fun mm hmm => by rw [show mm = 8 by omega]) (Nat.le_refl _) (hf) _ _ _ Mz9 (lv_sub hl9 [2, 3, 4, 1, 0] rfl)
set_option maxHeartbeats 4000000 in
set_option maxRecDepth 100000 in
theorem cb_squeezeInto_crack (l : Launch) (D : va_G) (T : Nat → ClassId) (h a q u d da : Nat) (β α κ τ : Nat → Int32) (lf : Int32) (γ : Nat → Int32) (en cn : Nat) (h8 : β 8 = nI cn) (hec : en * cn < 2 ^ 31) (hcm : cn ≤ 1300) (Bd : Nat) (hB : Bd < 2 ^ 30) (hf : ∀ x, x < 8 → bnd Bd (α x)) (hg : ∀ x, x < 8 → bnd Bd (γ x)) (hcn : cn < 700) : ZI l yX0_squeezeInto wsX0_squeezeInto (zrm 3 70) D T (bidW h a q u d da T β α κ τ lf γ) (bidW h a q u d da T (upd β 12 1) α κ τ lf γ) [.ref h, .ref d, .int (nI (en))] (-1) 0 0 := by
  refine z_inI (cc := cX0_squeezeInto) (maxL := 4) (rt := .int) (by decide +kernel) rfl (Nat.le_of_ble_eq_true rfl) ?_
  intro p e s m args below meth c sl9 A Q Z hnm Mz9 hl9 hret
  have Z : zC p s m args c cX0_squeezeInto 4 RX0 wsX0_squeezeInto D T A := Z
  have hx := Z.1.1
  have hb := Z.1.2.1
  have hts := Z.1.2.2.2.2
  have hin0 : ∀ w ∈ wsX00, w ∈ wsX0_squeezeInto := by decide +kernel
  have hin1 : ∀ w ∈ wsX10, w ∈ wsX0_squeezeInto := by decide +kernel
  have L19 := hts (.fieldLink RX0 19 "AnvilHouse$Billet" "core" "I") (by decide +kernel)
  have L75 := hts (.fieldLink RX0 75 "AnvilHouse$Billet" "cracked" "Z") (by decide +kernel)
  have hl9 : lv_has sl9 4 [(0, .ref h), (1, .ref d), (2, .int (nI (en)))] := hl9
  refine lv_aload_n hx hb dX0_squeezeInto_0 rfl (lv_at hl9 0 rfl) ?_
  refine z_getf Z Mz9 hin0 0 rfl rfl 8 (by decide) L19 rfl (v := .int (β 8)) rfl dX0_squeezeInto_1 ?_
  refine zn_top (y := nI (cn)) (h8) ?_
  refine lv_sipush (v := 700) hx hb dX0_squeezeInto_4 (by decide) ?_
  refine zn_icmp_ge (a := cn) (b := 700) (tgt := 17) (by omega) (by decide) hx hb dX0_squeezeInto_7 (by decide) (fun h => absurd h (by omega)) (fun _ => ?_)
  refine lv_aload_n hx hb dX0_squeezeInto_10 rfl (lv_at hl9 0 rfl) ?_
  refine lv_iconst (v := 1) hx hb dX0_squeezeInto_11 (by decide) ?_
  refine z_putf Z Mz9 hin0 tyX0 tyX0_ok nmX0 0 rfl rfl 12 (by decide) L75 rfl rfl (ty := .boolean) rfl rfl rfl (Nat.le_of_ble_eq_true rfl) (ws' := bidW h a q u d da T (upd β 12 1) α κ τ lf γ) rfl dX0_squeezeInto_12 (fun Hp9 lc9 Mz9 => ?_)
  refine lv_iconst (v := (-1)) hx hb dX0_squeezeInto_15 (by decide) ?_
  exact hret _ _ _ _ _ sl9 _ _ Mz9 (rfl) (rfl) (rfl) (Nat.le_refl _) (Nat.le_refl _) dX0_squeezeInto_16
set_option maxHeartbeats 4000000 in
set_option maxRecDepth 100000 in
theorem cb_squeezeInto_ok3z (l : Launch) (D : va_G) (T : Nat → ClassId) (h a q u d da : Nat) (β α κ τ : Nat → Int32) (lf : Int32) (γ : Nat → Int32) (en cn : Nat) (h8 : β 8 = nI cn) (hec : en * cn < 2 ^ 31) (hcm : cn ≤ 1300) (Bd : Nat) (hB : Bd < 2 ^ 30) (hf : ∀ x, x < 8 → bnd Bd (α x)) (hg : ∀ x, x < 8 → bnd Bd (γ x)) (hcn : 700 ≤ cn) (hc9 : cn < 900) (hz :  CL γ (FM γ (en * cn / 1000) α) = 0) : ZI l yX0_squeezeInto wsX0_squeezeInto (zrm 3 70) D T (bidW h a q u d da T β α κ τ lf γ) (bidW h a q u d da T (upd (upd (upd β 5 (KX γ (FM γ (en * cn / 1000) α) (β 5))) 7 (clS (β 7))) 8 (wrm (clS (β 7)) (β 8))) (KA γ (FM γ (en * cn / 1000) α)) κ τ (if 0 < lf - 3 then lf - 3 else 0) γ) [.ref h, .ref d, .int (nI (en))] (CL γ (FM γ (en * cn / 1000) α)) 0 0 := by
  refine z_inI (cc := cX0_squeezeInto) (maxL := 4) (rt := .int) (by decide +kernel) rfl (Nat.le_of_ble_eq_true rfl) ?_
  intro p e s m args below meth c sl9 A Q Z hnm Mz9 hl9 hret
  have Z : zC p s m args c cX0_squeezeInto 4 RX0 wsX0_squeezeInto D T A := Z
  have hx := Z.1.1
  have hb := Z.1.2.1
  have hts := Z.1.2.2.2.2
  have hin0 : ∀ w ∈ wsX00, w ∈ wsX0_squeezeInto := by decide +kernel
  have hin1 : ∀ w ∈ wsX10, w ∈ wsX0_squeezeInto := by decide +kernel
  have L19 := hts (.fieldLink RX0 19 "AnvilHouse$Billet" "core" "I") (by decide +kernel)
  have L75 := hts (.fieldLink RX0 75 "AnvilHouse$Billet" "cracked" "Z") (by decide +kernel)
  have hl9 : lv_has sl9 4 [(0, .ref h), (1, .ref d), (2, .int (nI (en)))] := hl9
  refine lv_aload_n hx hb dX0_squeezeInto_0 rfl (lv_at hl9 0 rfl) ?_
  refine z_getf Z Mz9 hin0 0 rfl rfl 8 (by decide) L19 rfl (v := .int (β 8)) rfl dX0_squeezeInto_1 ?_
  refine zn_top (y := nI (cn)) (h8) ?_
  refine lv_sipush (v := 700) hx hb dX0_squeezeInto_4 (by decide) ?_
  refine zn_icmp_ge (a := cn) (b := 700) (tgt := 17) (by omega) (by decide) hx hb dX0_squeezeInto_7 (by decide) (fun _ => ?_) (fun h => absurd h (by omega))
  refine lv_aload_n hx hb dX0_squeezeInto_17 rfl (lv_at hl9 0 rfl) ?_
  refine lv_aload_n hx hb dX0_squeezeInto_18 rfl (lv_at hl9 1 rfl) ?_
  refine lv_iload_n hx hb dX0_squeezeInto_19 rfl (lv_at hl9 2 rfl) ?_
  refine lv_aload_n hx hb dX0_squeezeInto_20 rfl (lv_at hl9 0 rfl) ?_
  refine z_getf Z Mz9 hin0 0 rfl rfl 8 (by decide) L19 rfl (v := .int (β 8)) rfl dX0_squeezeInto_21 ?_
  refine zn_top (y := nI (cn)) (h8) ?_
  refine zn_imul (a := en) (b := cn) hx hb dX0_squeezeInto_24 ?_
  refine lv_sipush (v := 1000) hx hb dX0_squeezeInto_25 (by decide) ?_
  refine zn_idiv (a := en * cn) (b := 1000) (by omega) (by decide) (by decide) hx hb dX0_squeezeInto_28 ?_
  refine z_callAv (As := [.ref d, .int (nI ((en * cn) / 1000))]) (rest := []) (wc' := bidW h a q u d da T β (FM γ ((en * cn) / 1000) α) κ τ lf γ) Z Mz9 (cb_flowInto l D T h a q u d da β α κ τ lf γ ((en * cn) / 1000) (by omega) Bd hB hf hg) (cwV 2 hts gX0_squeezeInto_X0_flowInto rfl rfl rfl (by decide +kernel) ⟨by decide, by decide⟩) (va_recv Z.2.1 Mz9.1 (ci := 1) (q0 := 0) rfl rfl) rfl hl9.1 (Nat.le_of_ble_eq_true rfl) dX0_squeezeInto_29 ⟨by decide, by decide⟩ rfl (fun Hp9 lc9 Mz9 => ?_)
  refine lv_aload_n hx hb dX0_squeezeInto_32 rfl (lv_at hl9 1 rfl) ?_
  refine lv_aload_n hx hb dX0_squeezeInto_33 rfl (lv_at hl9 0 rfl) ?_
  refine z_getf Z Mz9 hin0 0 rfl rfl 8 (by decide) L19 rfl (v := .int (β 8)) rfl dX0_squeezeInto_34 ?_
  refine zn_top (y := nI (cn)) (h8) ?_
  refine lv_sipush (v := 900) hx hb dX0_squeezeInto_37 (by decide) ?_
  refine zn_icmp_ge (a := cn) (b := 900) (tgt := 47) (by omega) (by decide) hx hb dX0_squeezeInto_40 (by decide) (fun h => absurd h (by omega)) (fun _ => ?_)
  refine lv_iconst (v := 3) hx hb dX0_squeezeInto_43 (by decide) ?_
  refine lv_goto (tgt := 48) hx hb dX0_squeezeInto_44 (by decide) ?_
  refine z_callAv (As := [.int 3]) (rest := []) (wc' := bidW h a q u d da T β (FM γ ((en * cn) / 1000) α) κ τ (if 0 < lf - 3 then lf - 3 else 0) γ) Z Mz9 (cb_wearBy l D T h a q u d da β (FM γ ((en * cn) / 1000) α) κ τ lf γ (3)) (cwV 1 hts gX0_squeezeInto_X1_wearBy rfl rfl rfl (by decide +kernel) ⟨by decide, by decide⟩) (va_recv Z.2.1 Mz9.1 (ci := 2) (q0 := 4) rfl rfl) rfl hl9.1 (Nat.le_of_ble_eq_true rfl) dX0_squeezeInto_48 ⟨by decide, by decide⟩ rfl (fun Hp9 lc9 Mz9 => ?_)
  refine lv_aload_n hx hb dX0_squeezeInto_51 rfl (lv_at hl9 0 rfl) ?_
  refine z_callVv (As := []) (rest := []) (wc := biW h a q u T β (FM γ ((en * cn) / 1000) α) κ τ) (wc' := biW h a q u T (upd (upd β 7 (clS (β 7))) 8 (wrm (clS (β 7)) (β 8))) (FM γ ((en * cn) / 1000) α) κ τ) Z Mz9 (cb_standOutside l D T h a q u β (FM γ ((en * cn) / 1000) α) κ τ) (cwV 0 hts gX0_squeezeInto_X0_standOutside rfl rfl rfl (by decide +kernel) ⟨by decide, by decide⟩) [0, 1, 2, 3] rfl (by decide) (fun j hj => rfl) (Nat.le_refl _) (va_recv Z.2.1 Mz9.1 (ci := 1) (q0 := 0) rfl rfl) rfl hl9.1 (Nat.le_of_ble_eq_true rfl) dX0_squeezeInto_52 ⟨by decide, by decide⟩ rfl (fun Hp9 lc9 Mz9 => ?_)
  have Mz9 : zM D A s.heap (bidW h a q u d da T (upd (upd β 7 (clS (β 7))) 8 (wrm (clS (β 7)) (β 8))) (FM γ ((en * cn) / 1000) α) κ τ (if 0 < lf - 3 then lf - 3 else 0) γ) _ _ := Mz9
  refine lv_aload_n hx hb dX0_squeezeInto_55 rfl (lv_at hl9 0 rfl) ?_
  refine lv_aload_n hx hb dX0_squeezeInto_56 rfl (lv_at hl9 1 rfl) ?_
  refine z_callAi (As := [.ref d]) (rest := []) (rv := CL γ (FM γ ((en * cn) / 1000) α)) (wc' := bidW h a q u d da T (upd (upd β 7 (clS (β 7))) 8 (wrm (clS (β 7)) (β 8))) (FM γ ((en * cn) / 1000) α) κ τ (if 0 < lf - 3 then lf - 3 else 0) γ) Z Mz9 (cb_countBelow l D T h a q u d da (upd (upd β 7 (clS (β 7))) 8 (wrm (clS (β 7)) (β 8))) (FM γ ((en * cn) / 1000) α) κ τ (if 0 < lf - 3 then lf - 3 else 0) γ) (cwV 1 hts gX0_squeezeInto_X0_countBelow rfl rfl rfl (by decide +kernel) ⟨by decide, by decide⟩) (va_recv Z.2.1 Mz9.1 (ci := 1) (q0 := 0) rfl rfl) rfl hl9.1 (Nat.le_of_ble_eq_true rfl) dX0_squeezeInto_57 ⟨by decide, by decide⟩ rfl (fun Hp9 lc9 Mz9 => ?_)
  refine lv_istore_n (lv' := [(3, .int (CL γ (FM γ ((en * cn) / 1000) α))), (0, .ref h), (1, .ref d), (2, .int (nI (en)))]) hx hb dX0_squeezeInto_60 rfl hl9 (by decide) rfl (fun sl9 hl9 => ?_)
  refine lv_iload_n hx hb dX0_squeezeInto_61 rfl (lv_at hl9 0 rfl) ?_
  refine lv_if_ne (tgt := 70) hx hb dX0_squeezeInto_62 (by decide) (fun h => absurd h (fun h => h hz)) (fun _ => ?_)
  refine lv_aload_n hx hb dX0_squeezeInto_65 rfl (lv_at hl9 1 rfl) ?_
  refine lv_aload_n hx hb dX0_squeezeInto_66 rfl (lv_at hl9 2 rfl) ?_
  refine z_callAv (As := [.ref d]) (rest := []) (wc' := bidW h a q u d da T (upd (upd (upd β 5 (KX γ (FM γ ((en * cn) / 1000) α) (β 5))) 7 (clS (β 7))) 8 (wrm (clS (β 7)) (β 8))) (KA γ (FM γ ((en * cn) / 1000) α)) κ τ (if 0 < lf - 3 then lf - 3 else 0) γ) Z Mz9 (cb_cutFlash l D T h a q u d da (upd (upd β 7 (clS (β 7))) 8 (wrm (clS (β 7)) (β 8))) (FM γ ((en * cn) / 1000) α) κ τ (if 0 < lf - 3 then lf - 3 else 0) γ) (cwV 1 hts gX0_squeezeInto_X0_cutFlash rfl rfl rfl (by decide +kernel) ⟨by decide, by decide⟩) (va_recv Z.2.1 Mz9.1 (ci := 1) (q0 := 0) rfl rfl) rfl hl9.1 (Nat.le_of_ble_eq_true rfl) dX0_squeezeInto_67 ⟨by decide, by decide⟩ rfl (fun Hp9 lc9 Mz9 => ?_)
  refine lv_iload_n hx hb dX0_squeezeInto_70 rfl (lv_at hl9 0 rfl) ?_
  exact hret _ _ _ _ _ sl9 _ _ Mz9 (rfl) (rfl) (rfl) (Nat.le_refl _) (Nat.le_refl _) dX0_squeezeInto_71
set_option maxHeartbeats 4000000 in
set_option maxRecDepth 100000 in
theorem cb_squeezeInto_ok3n (l : Launch) (D : va_G) (T : Nat → ClassId) (h a q u d da : Nat) (β α κ τ : Nat → Int32) (lf : Int32) (γ : Nat → Int32) (en cn : Nat) (h8 : β 8 = nI cn) (hec : en * cn < 2 ^ 31) (hcm : cn ≤ 1300) (Bd : Nat) (hB : Bd < 2 ^ 30) (hf : ∀ x, x < 8 → bnd Bd (α x)) (hg : ∀ x, x < 8 → bnd Bd (γ x)) (hcn : 700 ≤ cn) (hc9 : cn < 900) (hz : ¬ CL γ (FM γ (en * cn / 1000) α) = 0) : ZI l yX0_squeezeInto wsX0_squeezeInto (zrm 3 70) D T (bidW h a q u d da T β α κ τ lf γ) (bidW h a q u d da T (upd (upd β 7 (clS (β 7))) 8 (wrm (clS (β 7)) (β 8))) (FM γ (en * cn / 1000) α) κ τ (if 0 < lf - 3 then lf - 3 else 0) γ) [.ref h, .ref d, .int (nI (en))] (CL γ (FM γ (en * cn / 1000) α)) 0 0 := by
  refine z_inI (cc := cX0_squeezeInto) (maxL := 4) (rt := .int) (by decide +kernel) rfl (Nat.le_of_ble_eq_true rfl) ?_
  intro p e s m args below meth c sl9 A Q Z hnm Mz9 hl9 hret
  have Z : zC p s m args c cX0_squeezeInto 4 RX0 wsX0_squeezeInto D T A := Z
  have hx := Z.1.1
  have hb := Z.1.2.1
  have hts := Z.1.2.2.2.2
  have hin0 : ∀ w ∈ wsX00, w ∈ wsX0_squeezeInto := by decide +kernel
  have hin1 : ∀ w ∈ wsX10, w ∈ wsX0_squeezeInto := by decide +kernel
  have L19 := hts (.fieldLink RX0 19 "AnvilHouse$Billet" "core" "I") (by decide +kernel)
  have L75 := hts (.fieldLink RX0 75 "AnvilHouse$Billet" "cracked" "Z") (by decide +kernel)
  have hl9 : lv_has sl9 4 [(0, .ref h), (1, .ref d), (2, .int (nI (en)))] := hl9
  refine lv_aload_n hx hb dX0_squeezeInto_0 rfl (lv_at hl9 0 rfl) ?_
  refine z_getf Z Mz9 hin0 0 rfl rfl 8 (by decide) L19 rfl (v := .int (β 8)) rfl dX0_squeezeInto_1 ?_
  refine zn_top (y := nI (cn)) (h8) ?_
  refine lv_sipush (v := 700) hx hb dX0_squeezeInto_4 (by decide) ?_
  refine zn_icmp_ge (a := cn) (b := 700) (tgt := 17) (by omega) (by decide) hx hb dX0_squeezeInto_7 (by decide) (fun _ => ?_) (fun h => absurd h (by omega))
  refine lv_aload_n hx hb dX0_squeezeInto_17 rfl (lv_at hl9 0 rfl) ?_
  refine lv_aload_n hx hb dX0_squeezeInto_18 rfl (lv_at hl9 1 rfl) ?_
  refine lv_iload_n hx hb dX0_squeezeInto_19 rfl (lv_at hl9 2 rfl) ?_
  refine lv_aload_n hx hb dX0_squeezeInto_20 rfl (lv_at hl9 0 rfl) ?_
  refine z_getf Z Mz9 hin0 0 rfl rfl 8 (by decide) L19 rfl (v := .int (β 8)) rfl dX0_squeezeInto_21 ?_
  refine zn_top (y := nI (cn)) (h8) ?_
  refine zn_imul (a := en) (b := cn) hx hb dX0_squeezeInto_24 ?_
  refine lv_sipush (v := 1000) hx hb dX0_squeezeInto_25 (by decide) ?_
  refine zn_idiv (a := en * cn) (b := 1000) (by omega) (by decide) (by decide) hx hb dX0_squeezeInto_28 ?_
  refine z_callAv (As := [.ref d, .int (nI ((en * cn) / 1000))]) (rest := []) (wc' := bidW h a q u d da T β (FM γ ((en * cn) / 1000) α) κ τ lf γ) Z Mz9 (cb_flowInto l D T h a q u d da β α κ τ lf γ ((en * cn) / 1000) (by omega) Bd hB hf hg) (cwV 2 hts gX0_squeezeInto_X0_flowInto rfl rfl rfl (by decide +kernel) ⟨by decide, by decide⟩) (va_recv Z.2.1 Mz9.1 (ci := 1) (q0 := 0) rfl rfl) rfl hl9.1 (Nat.le_of_ble_eq_true rfl) dX0_squeezeInto_29 ⟨by decide, by decide⟩ rfl (fun Hp9 lc9 Mz9 => ?_)
  refine lv_aload_n hx hb dX0_squeezeInto_32 rfl (lv_at hl9 1 rfl) ?_
  refine lv_aload_n hx hb dX0_squeezeInto_33 rfl (lv_at hl9 0 rfl) ?_
  refine z_getf Z Mz9 hin0 0 rfl rfl 8 (by decide) L19 rfl (v := .int (β 8)) rfl dX0_squeezeInto_34 ?_
  refine zn_top (y := nI (cn)) (h8) ?_
  refine lv_sipush (v := 900) hx hb dX0_squeezeInto_37 (by decide) ?_
  refine zn_icmp_ge (a := cn) (b := 900) (tgt := 47) (by omega) (by decide) hx hb dX0_squeezeInto_40 (by decide) (fun h => absurd h (by omega)) (fun _ => ?_)
  refine lv_iconst (v := 3) hx hb dX0_squeezeInto_43 (by decide) ?_
  refine lv_goto (tgt := 48) hx hb dX0_squeezeInto_44 (by decide) ?_
  refine z_callAv (As := [.int 3]) (rest := []) (wc' := bidW h a q u d da T β (FM γ ((en * cn) / 1000) α) κ τ (if 0 < lf - 3 then lf - 3 else 0) γ) Z Mz9 (cb_wearBy l D T h a q u d da β (FM γ ((en * cn) / 1000) α) κ τ lf γ (3)) (cwV 1 hts gX0_squeezeInto_X1_wearBy rfl rfl rfl (by decide +kernel) ⟨by decide, by decide⟩) (va_recv Z.2.1 Mz9.1 (ci := 2) (q0 := 4) rfl rfl) rfl hl9.1 (Nat.le_of_ble_eq_true rfl) dX0_squeezeInto_48 ⟨by decide, by decide⟩ rfl (fun Hp9 lc9 Mz9 => ?_)
  refine lv_aload_n hx hb dX0_squeezeInto_51 rfl (lv_at hl9 0 rfl) ?_
  refine z_callVv (As := []) (rest := []) (wc := biW h a q u T β (FM γ ((en * cn) / 1000) α) κ τ) (wc' := biW h a q u T (upd (upd β 7 (clS (β 7))) 8 (wrm (clS (β 7)) (β 8))) (FM γ ((en * cn) / 1000) α) κ τ) Z Mz9 (cb_standOutside l D T h a q u β (FM γ ((en * cn) / 1000) α) κ τ) (cwV 0 hts gX0_squeezeInto_X0_standOutside rfl rfl rfl (by decide +kernel) ⟨by decide, by decide⟩) [0, 1, 2, 3] rfl (by decide) (fun j hj => rfl) (Nat.le_refl _) (va_recv Z.2.1 Mz9.1 (ci := 1) (q0 := 0) rfl rfl) rfl hl9.1 (Nat.le_of_ble_eq_true rfl) dX0_squeezeInto_52 ⟨by decide, by decide⟩ rfl (fun Hp9 lc9 Mz9 => ?_)
  have Mz9 : zM D A s.heap (bidW h a q u d da T (upd (upd β 7 (clS (β 7))) 8 (wrm (clS (β 7)) (β 8))) (FM γ ((en * cn) / 1000) α) κ τ (if 0 < lf - 3 then lf - 3 else 0) γ) _ _ := Mz9
  refine lv_aload_n hx hb dX0_squeezeInto_55 rfl (lv_at hl9 0 rfl) ?_
  refine lv_aload_n hx hb dX0_squeezeInto_56 rfl (lv_at hl9 1 rfl) ?_
  refine z_callAi (As := [.ref d]) (rest := []) (rv := CL γ (FM γ ((en * cn) / 1000) α)) (wc' := bidW h a q u d da T (upd (upd β 7 (clS (β 7))) 8 (wrm (clS (β 7)) (β 8))) (FM γ ((en * cn) / 1000) α) κ τ (if 0 < lf - 3 then lf - 3 else 0) γ) Z Mz9 (cb_countBelow l D T h a q u d da (upd (upd β 7 (clS (β 7))) 8 (wrm (clS (β 7)) (β 8))) (FM γ ((en * cn) / 1000) α) κ τ (if 0 < lf - 3 then lf - 3 else 0) γ) (cwV 1 hts gX0_squeezeInto_X0_countBelow rfl rfl rfl (by decide +kernel) ⟨by decide, by decide⟩) (va_recv Z.2.1 Mz9.1 (ci := 1) (q0 := 0) rfl rfl) rfl hl9.1 (Nat.le_of_ble_eq_true rfl) dX0_squeezeInto_57 ⟨by decide, by decide⟩ rfl (fun Hp9 lc9 Mz9 => ?_)
  refine lv_istore_n (lv' := [(3, .int (CL γ (FM γ ((en * cn) / 1000) α))), (0, .ref h), (1, .ref d), (2, .int (nI (en)))]) hx hb dX0_squeezeInto_60 rfl hl9 (by decide) rfl (fun sl9 hl9 => ?_)
  refine lv_iload_n hx hb dX0_squeezeInto_61 rfl (lv_at hl9 0 rfl) ?_
  refine lv_if_ne (tgt := 70) hx hb dX0_squeezeInto_62 (by decide) (fun _ => ?_) (fun h => absurd h (hz))
  refine lv_iload_n hx hb dX0_squeezeInto_70 rfl (lv_at hl9 0 rfl) ?_
  exact hret _ _ _ _ _ sl9 _ _ Mz9 (rfl) (rfl) (rfl) (Nat.le_refl _) (Nat.le_refl _) dX0_squeezeInto_71
set_option maxHeartbeats 4000000 in
set_option maxRecDepth 100000 in
theorem cb_squeezeInto_ok1z (l : Launch) (D : va_G) (T : Nat → ClassId) (h a q u d da : Nat) (β α κ τ : Nat → Int32) (lf : Int32) (γ : Nat → Int32) (en cn : Nat) (h8 : β 8 = nI cn) (hec : en * cn < 2 ^ 31) (hcm : cn ≤ 1300) (Bd : Nat) (hB : Bd < 2 ^ 30) (hf : ∀ x, x < 8 → bnd Bd (α x)) (hg : ∀ x, x < 8 → bnd Bd (γ x)) (hcn : 700 ≤ cn) (hc9 : 900 ≤ cn) (hz :  CL γ (FM γ (en * cn / 1000) α) = 0) : ZI l yX0_squeezeInto wsX0_squeezeInto (zrm 3 70) D T (bidW h a q u d da T β α κ τ lf γ) (bidW h a q u d da T (upd (upd (upd β 5 (KX γ (FM γ (en * cn / 1000) α) (β 5))) 7 (clS (β 7))) 8 (wrm (clS (β 7)) (β 8))) (KA γ (FM γ (en * cn / 1000) α)) κ τ (if 0 < lf - 1 then lf - 1 else 0) γ) [.ref h, .ref d, .int (nI (en))] (CL γ (FM γ (en * cn / 1000) α)) 0 0 := by
  refine z_inI (cc := cX0_squeezeInto) (maxL := 4) (rt := .int) (by decide +kernel) rfl (Nat.le_of_ble_eq_true rfl) ?_
  intro p e s m args below meth c sl9 A Q Z hnm Mz9 hl9 hret
  have Z : zC p s m args c cX0_squeezeInto 4 RX0 wsX0_squeezeInto D T A := Z
  have hx := Z.1.1
  have hb := Z.1.2.1
  have hts := Z.1.2.2.2.2
  have hin0 : ∀ w ∈ wsX00, w ∈ wsX0_squeezeInto := by decide +kernel
  have hin1 : ∀ w ∈ wsX10, w ∈ wsX0_squeezeInto := by decide +kernel
  have L19 := hts (.fieldLink RX0 19 "AnvilHouse$Billet" "core" "I") (by decide +kernel)
  have L75 := hts (.fieldLink RX0 75 "AnvilHouse$Billet" "cracked" "Z") (by decide +kernel)
  have hl9 : lv_has sl9 4 [(0, .ref h), (1, .ref d), (2, .int (nI (en)))] := hl9
  refine lv_aload_n hx hb dX0_squeezeInto_0 rfl (lv_at hl9 0 rfl) ?_
  refine z_getf Z Mz9 hin0 0 rfl rfl 8 (by decide) L19 rfl (v := .int (β 8)) rfl dX0_squeezeInto_1 ?_
  refine zn_top (y := nI (cn)) (h8) ?_
  refine lv_sipush (v := 700) hx hb dX0_squeezeInto_4 (by decide) ?_
  refine zn_icmp_ge (a := cn) (b := 700) (tgt := 17) (by omega) (by decide) hx hb dX0_squeezeInto_7 (by decide) (fun _ => ?_) (fun h => absurd h (by omega))
  refine lv_aload_n hx hb dX0_squeezeInto_17 rfl (lv_at hl9 0 rfl) ?_
  refine lv_aload_n hx hb dX0_squeezeInto_18 rfl (lv_at hl9 1 rfl) ?_
  refine lv_iload_n hx hb dX0_squeezeInto_19 rfl (lv_at hl9 2 rfl) ?_
  refine lv_aload_n hx hb dX0_squeezeInto_20 rfl (lv_at hl9 0 rfl) ?_
  refine z_getf Z Mz9 hin0 0 rfl rfl 8 (by decide) L19 rfl (v := .int (β 8)) rfl dX0_squeezeInto_21 ?_
  refine zn_top (y := nI (cn)) (h8) ?_
  refine zn_imul (a := en) (b := cn) hx hb dX0_squeezeInto_24 ?_
  refine lv_sipush (v := 1000) hx hb dX0_squeezeInto_25 (by decide) ?_
  refine zn_idiv (a := en * cn) (b := 1000) (by omega) (by decide) (by decide) hx hb dX0_squeezeInto_28 ?_
  refine z_callAv (As := [.ref d, .int (nI ((en * cn) / 1000))]) (rest := []) (wc' := bidW h a q u d da T β (FM γ ((en * cn) / 1000) α) κ τ lf γ) Z Mz9 (cb_flowInto l D T h a q u d da β α κ τ lf γ ((en * cn) / 1000) (by omega) Bd hB hf hg) (cwV 2 hts gX0_squeezeInto_X0_flowInto rfl rfl rfl (by decide +kernel) ⟨by decide, by decide⟩) (va_recv Z.2.1 Mz9.1 (ci := 1) (q0 := 0) rfl rfl) rfl hl9.1 (Nat.le_of_ble_eq_true rfl) dX0_squeezeInto_29 ⟨by decide, by decide⟩ rfl (fun Hp9 lc9 Mz9 => ?_)
  refine lv_aload_n hx hb dX0_squeezeInto_32 rfl (lv_at hl9 1 rfl) ?_
  refine lv_aload_n hx hb dX0_squeezeInto_33 rfl (lv_at hl9 0 rfl) ?_
  refine z_getf Z Mz9 hin0 0 rfl rfl 8 (by decide) L19 rfl (v := .int (β 8)) rfl dX0_squeezeInto_34 ?_
  refine zn_top (y := nI (cn)) (h8) ?_
  refine lv_sipush (v := 900) hx hb dX0_squeezeInto_37 (by decide) ?_
  refine zn_icmp_ge (a := cn) (b := 900) (tgt := 47) (by omega) (by decide) hx hb dX0_squeezeInto_40 (by decide) (fun _ => ?_) (fun h => absurd h (by omega))
  refine lv_iconst (v := 1) hx hb dX0_squeezeInto_47 (by decide) ?_
  refine z_callAv (As := [.int 1]) (rest := []) (wc' := bidW h a q u d da T β (FM γ ((en * cn) / 1000) α) κ τ (if 0 < lf - 1 then lf - 1 else 0) γ) Z Mz9 (cb_wearBy l D T h a q u d da β (FM γ ((en * cn) / 1000) α) κ τ lf γ (1)) (cwV 1 hts gX0_squeezeInto_X1_wearBy rfl rfl rfl (by decide +kernel) ⟨by decide, by decide⟩) (va_recv Z.2.1 Mz9.1 (ci := 2) (q0 := 4) rfl rfl) rfl hl9.1 (Nat.le_of_ble_eq_true rfl) dX0_squeezeInto_48 ⟨by decide, by decide⟩ rfl (fun Hp9 lc9 Mz9 => ?_)
  refine lv_aload_n hx hb dX0_squeezeInto_51 rfl (lv_at hl9 0 rfl) ?_
  refine z_callVv (As := []) (rest := []) (wc := biW h a q u T β (FM γ ((en * cn) / 1000) α) κ τ) (wc' := biW h a q u T (upd (upd β 7 (clS (β 7))) 8 (wrm (clS (β 7)) (β 8))) (FM γ ((en * cn) / 1000) α) κ τ) Z Mz9 (cb_standOutside l D T h a q u β (FM γ ((en * cn) / 1000) α) κ τ) (cwV 0 hts gX0_squeezeInto_X0_standOutside rfl rfl rfl (by decide +kernel) ⟨by decide, by decide⟩) [0, 1, 2, 3] rfl (by decide) (fun j hj => rfl) (Nat.le_refl _) (va_recv Z.2.1 Mz9.1 (ci := 1) (q0 := 0) rfl rfl) rfl hl9.1 (Nat.le_of_ble_eq_true rfl) dX0_squeezeInto_52 ⟨by decide, by decide⟩ rfl (fun Hp9 lc9 Mz9 => ?_)
  have Mz9 : zM D A s.heap (bidW h a q u d da T (upd (upd β 7 (clS (β 7))) 8 (wrm (clS (β 7)) (β 8))) (FM γ ((en * cn) / 1000) α) κ τ (if 0 < lf - 1 then lf - 1 else 0) γ) _ _ := Mz9
  refine lv_aload_n hx hb dX0_squeezeInto_55 rfl (lv_at hl9 0 rfl) ?_
  refine lv_aload_n hx hb dX0_squeezeInto_56 rfl (lv_at hl9 1 rfl) ?_
  refine z_callAi (As := [.ref d]) (rest := []) (rv := CL γ (FM γ ((en * cn) / 1000) α)) (wc' := bidW h a q u d da T (upd (upd β 7 (clS (β 7))) 8 (wrm (clS (β 7)) (β 8))) (FM γ ((en * cn) / 1000) α) κ τ (if 0 < lf - 1 then lf - 1 else 0) γ) Z Mz9 (cb_countBelow l D T h a q u d da (upd (upd β 7 (clS (β 7))) 8 (wrm (clS (β 7)) (β 8))) (FM γ ((en * cn) / 1000) α) κ τ (if 0 < lf - 1 then lf - 1 else 0) γ) (cwV 1 hts gX0_squeezeInto_X0_countBelow rfl rfl rfl (by decide +kernel) ⟨by decide, by decide⟩) (va_recv Z.2.1 Mz9.1 (ci := 1) (q0 := 0) rfl rfl) rfl hl9.1 (Nat.le_of_ble_eq_true rfl) dX0_squeezeInto_57 ⟨by decide, by decide⟩ rfl (fun Hp9 lc9 Mz9 => ?_)
  refine lv_istore_n (lv' := [(3, .int (CL γ (FM γ ((en * cn) / 1000) α))), (0, .ref h), (1, .ref d), (2, .int (nI (en)))]) hx hb dX0_squeezeInto_60 rfl hl9 (by decide) rfl (fun sl9 hl9 => ?_)
  refine lv_iload_n hx hb dX0_squeezeInto_61 rfl (lv_at hl9 0 rfl) ?_
  refine lv_if_ne (tgt := 70) hx hb dX0_squeezeInto_62 (by decide) (fun h => absurd h (fun h => h hz)) (fun _ => ?_)
  refine lv_aload_n hx hb dX0_squeezeInto_65 rfl (lv_at hl9 1 rfl) ?_
  refine lv_aload_n hx hb dX0_squeezeInto_66 rfl (lv_at hl9 2 rfl) ?_
  refine z_callAv (As := [.ref d]) (rest := []) (wc' := bidW h a q u d da T (upd (upd (upd β 5 (KX γ (FM γ ((en * cn) / 1000) α) (β 5))) 7 (clS (β 7))) 8 (wrm (clS (β 7)) (β 8))) (KA γ (FM γ ((en * cn) / 1000) α)) κ τ (if 0 < lf - 1 then lf - 1 else 0) γ) Z Mz9 (cb_cutFlash l D T h a q u d da (upd (upd β 7 (clS (β 7))) 8 (wrm (clS (β 7)) (β 8))) (FM γ ((en * cn) / 1000) α) κ τ (if 0 < lf - 1 then lf - 1 else 0) γ) (cwV 1 hts gX0_squeezeInto_X0_cutFlash rfl rfl rfl (by decide +kernel) ⟨by decide, by decide⟩) (va_recv Z.2.1 Mz9.1 (ci := 1) (q0 := 0) rfl rfl) rfl hl9.1 (Nat.le_of_ble_eq_true rfl) dX0_squeezeInto_67 ⟨by decide, by decide⟩ rfl (fun Hp9 lc9 Mz9 => ?_)
  refine lv_iload_n hx hb dX0_squeezeInto_70 rfl (lv_at hl9 0 rfl) ?_
  exact hret _ _ _ _ _ sl9 _ _ Mz9 (rfl) (rfl) (rfl) (Nat.le_refl _) (Nat.le_refl _) dX0_squeezeInto_71
set_option maxHeartbeats 4000000 in
set_option maxRecDepth 100000 in
theorem cb_squeezeInto_ok1n (l : Launch) (D : va_G) (T : Nat → ClassId) (h a q u d da : Nat) (β α κ τ : Nat → Int32) (lf : Int32) (γ : Nat → Int32) (en cn : Nat) (h8 : β 8 = nI cn) (hec : en * cn < 2 ^ 31) (hcm : cn ≤ 1300) (Bd : Nat) (hB : Bd < 2 ^ 30) (hf : ∀ x, x < 8 → bnd Bd (α x)) (hg : ∀ x, x < 8 → bnd Bd (γ x)) (hcn : 700 ≤ cn) (hc9 : 900 ≤ cn) (hz : ¬ CL γ (FM γ (en * cn / 1000) α) = 0) : ZI l yX0_squeezeInto wsX0_squeezeInto (zrm 3 70) D T (bidW h a q u d da T β α κ τ lf γ) (bidW h a q u d da T (upd (upd β 7 (clS (β 7))) 8 (wrm (clS (β 7)) (β 8))) (FM γ (en * cn / 1000) α) κ τ (if 0 < lf - 1 then lf - 1 else 0) γ) [.ref h, .ref d, .int (nI (en))] (CL γ (FM γ (en * cn / 1000) α)) 0 0 := by
  refine z_inI (cc := cX0_squeezeInto) (maxL := 4) (rt := .int) (by decide +kernel) rfl (Nat.le_of_ble_eq_true rfl) ?_
  intro p e s m args below meth c sl9 A Q Z hnm Mz9 hl9 hret
  have Z : zC p s m args c cX0_squeezeInto 4 RX0 wsX0_squeezeInto D T A := Z
  have hx := Z.1.1
  have hb := Z.1.2.1
  have hts := Z.1.2.2.2.2
  have hin0 : ∀ w ∈ wsX00, w ∈ wsX0_squeezeInto := by decide +kernel
  have hin1 : ∀ w ∈ wsX10, w ∈ wsX0_squeezeInto := by decide +kernel
  have L19 := hts (.fieldLink RX0 19 "AnvilHouse$Billet" "core" "I") (by decide +kernel)
  have L75 := hts (.fieldLink RX0 75 "AnvilHouse$Billet" "cracked" "Z") (by decide +kernel)
  have hl9 : lv_has sl9 4 [(0, .ref h), (1, .ref d), (2, .int (nI (en)))] := hl9
  refine lv_aload_n hx hb dX0_squeezeInto_0 rfl (lv_at hl9 0 rfl) ?_
  refine z_getf Z Mz9 hin0 0 rfl rfl 8 (by decide) L19 rfl (v := .int (β 8)) rfl dX0_squeezeInto_1 ?_
  refine zn_top (y := nI (cn)) (h8) ?_
  refine lv_sipush (v := 700) hx hb dX0_squeezeInto_4 (by decide) ?_
  refine zn_icmp_ge (a := cn) (b := 700) (tgt := 17) (by omega) (by decide) hx hb dX0_squeezeInto_7 (by decide) (fun _ => ?_) (fun h => absurd h (by omega))
  refine lv_aload_n hx hb dX0_squeezeInto_17 rfl (lv_at hl9 0 rfl) ?_
  refine lv_aload_n hx hb dX0_squeezeInto_18 rfl (lv_at hl9 1 rfl) ?_
  refine lv_iload_n hx hb dX0_squeezeInto_19 rfl (lv_at hl9 2 rfl) ?_
  refine lv_aload_n hx hb dX0_squeezeInto_20 rfl (lv_at hl9 0 rfl) ?_
  refine z_getf Z Mz9 hin0 0 rfl rfl 8 (by decide) L19 rfl (v := .int (β 8)) rfl dX0_squeezeInto_21 ?_
  refine zn_top (y := nI (cn)) (h8) ?_
  refine zn_imul (a := en) (b := cn) hx hb dX0_squeezeInto_24 ?_
  refine lv_sipush (v := 1000) hx hb dX0_squeezeInto_25 (by decide) ?_
  refine zn_idiv (a := en * cn) (b := 1000) (by omega) (by decide) (by decide) hx hb dX0_squeezeInto_28 ?_
  refine z_callAv (As := [.ref d, .int (nI ((en * cn) / 1000))]) (rest := []) (wc' := bidW h a q u d da T β (FM γ ((en * cn) / 1000) α) κ τ lf γ) Z Mz9 (cb_flowInto l D T h a q u d da β α κ τ lf γ ((en * cn) / 1000) (by omega) Bd hB hf hg) (cwV 2 hts gX0_squeezeInto_X0_flowInto rfl rfl rfl (by decide +kernel) ⟨by decide, by decide⟩) (va_recv Z.2.1 Mz9.1 (ci := 1) (q0 := 0) rfl rfl) rfl hl9.1 (Nat.le_of_ble_eq_true rfl) dX0_squeezeInto_29 ⟨by decide, by decide⟩ rfl (fun Hp9 lc9 Mz9 => ?_)
  refine lv_aload_n hx hb dX0_squeezeInto_32 rfl (lv_at hl9 1 rfl) ?_
  refine lv_aload_n hx hb dX0_squeezeInto_33 rfl (lv_at hl9 0 rfl) ?_
  refine z_getf Z Mz9 hin0 0 rfl rfl 8 (by decide) L19 rfl (v := .int (β 8)) rfl dX0_squeezeInto_34 ?_
  refine zn_top (y := nI (cn)) (h8) ?_
  refine lv_sipush (v := 900) hx hb dX0_squeezeInto_37 (by decide) ?_
  refine zn_icmp_ge (a := cn) (b := 900) (tgt := 47) (by omega) (by decide) hx hb dX0_squeezeInto_40 (by decide) (fun _ => ?_) (fun h => absurd h (by omega))
  refine lv_iconst (v := 1) hx hb dX0_squeezeInto_47 (by decide) ?_
  refine z_callAv (As := [.int 1]) (rest := []) (wc' := bidW h a q u d da T β (FM γ ((en * cn) / 1000) α) κ τ (if 0 < lf - 1 then lf - 1 else 0) γ) Z Mz9 (cb_wearBy l D T h a q u d da β (FM γ ((en * cn) / 1000) α) κ τ lf γ (1)) (cwV 1 hts gX0_squeezeInto_X1_wearBy rfl rfl rfl (by decide +kernel) ⟨by decide, by decide⟩) (va_recv Z.2.1 Mz9.1 (ci := 2) (q0 := 4) rfl rfl) rfl hl9.1 (Nat.le_of_ble_eq_true rfl) dX0_squeezeInto_48 ⟨by decide, by decide⟩ rfl (fun Hp9 lc9 Mz9 => ?_)
  refine lv_aload_n hx hb dX0_squeezeInto_51 rfl (lv_at hl9 0 rfl) ?_
  refine z_callVv (As := []) (rest := []) (wc := biW h a q u T β (FM γ ((en * cn) / 1000) α) κ τ) (wc' := biW h a q u T (upd (upd β 7 (clS (β 7))) 8 (wrm (clS (β 7)) (β 8))) (FM γ ((en * cn) / 1000) α) κ τ) Z Mz9 (cb_standOutside l D T h a q u β (FM γ ((en * cn) / 1000) α) κ τ) (cwV 0 hts gX0_squeezeInto_X0_standOutside rfl rfl rfl (by decide +kernel) ⟨by decide, by decide⟩) [0, 1, 2, 3] rfl (by decide) (fun j hj => rfl) (Nat.le_refl _) (va_recv Z.2.1 Mz9.1 (ci := 1) (q0 := 0) rfl rfl) rfl hl9.1 (Nat.le_of_ble_eq_true rfl) dX0_squeezeInto_52 ⟨by decide, by decide⟩ rfl (fun Hp9 lc9 Mz9 => ?_)
  have Mz9 : zM D A s.heap (bidW h a q u d da T (upd (upd β 7 (clS (β 7))) 8 (wrm (clS (β 7)) (β 8))) (FM γ ((en * cn) / 1000) α) κ τ (if 0 < lf - 1 then lf - 1 else 0) γ) _ _ := Mz9
  refine lv_aload_n hx hb dX0_squeezeInto_55 rfl (lv_at hl9 0 rfl) ?_
  refine lv_aload_n hx hb dX0_squeezeInto_56 rfl (lv_at hl9 1 rfl) ?_
  refine z_callAi (As := [.ref d]) (rest := []) (rv := CL γ (FM γ ((en * cn) / 1000) α)) (wc' := bidW h a q u d da T (upd (upd β 7 (clS (β 7))) 8 (wrm (clS (β 7)) (β 8))) (FM γ ((en * cn) / 1000) α) κ τ (if 0 < lf - 1 then lf - 1 else 0) γ) Z Mz9 (cb_countBelow l D T h a q u d da (upd (upd β 7 (clS (β 7))) 8 (wrm (clS (β 7)) (β 8))) (FM γ ((en * cn) / 1000) α) κ τ (if 0 < lf - 1 then lf - 1 else 0) γ) (cwV 1 hts gX0_squeezeInto_X0_countBelow rfl rfl rfl (by decide +kernel) ⟨by decide, by decide⟩) (va_recv Z.2.1 Mz9.1 (ci := 1) (q0 := 0) rfl rfl) rfl hl9.1 (Nat.le_of_ble_eq_true rfl) dX0_squeezeInto_57 ⟨by decide, by decide⟩ rfl (fun Hp9 lc9 Mz9 => ?_)
  refine lv_istore_n (lv' := [(3, .int (CL γ (FM γ ((en * cn) / 1000) α))), (0, .ref h), (1, .ref d), (2, .int (nI (en)))]) hx hb dX0_squeezeInto_60 rfl hl9 (by decide) rfl (fun sl9 hl9 => ?_)
  refine lv_iload_n hx hb dX0_squeezeInto_61 rfl (lv_at hl9 0 rfl) ?_
  refine lv_if_ne (tgt := 70) hx hb dX0_squeezeInto_62 (by decide) (fun _ => ?_) (fun h => absurd h (hz))
  refine lv_iload_n hx hb dX0_squeezeInto_70 rfl (lv_at hl9 0 rfl) ?_
  exact hret _ _ _ _ _ sl9 _ _ Mz9 (rfl) (rfl) (rfl) (Nat.le_refl _) (Nat.le_refl _) dX0_squeezeInto_71
