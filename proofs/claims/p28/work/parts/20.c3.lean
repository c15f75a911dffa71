/-! ===== laid by program ===== -/
set_option maxHeartbeats 4000000 in
set_option maxRecDepth 100000 in
theorem cb_nearestAbove (l : Launch) (D : va_G) (T : Nat → ClassId) (h a q u d da : Nat) (β α κ τ : Nat → Int32) (lf : Int32) (γ : Nat → Int32) (j : Nat) (hj : j < 8) (Bd : Nat) (hB : Bd < 2 ^ 30) (hf : ∀ x, x < 8 → bnd Bd (α x)) (hg : ∀ x, x < 8 → bnd Bd (γ x)) : ZI l yX0_nearestAbove wsX0_nearestAbove (zrm 1 22) D T (bidW h a q u d da T β α κ τ lf γ) (bidW h a q u d da T β α κ τ lf γ) [.ref h, .ref d, .int (nI (j))] (GV (ov0 α γ) j) 0 0 := by
  simp only [GV_eq]
  refine z_inI (cc := cX0_nearestAbove) (maxL := 4) (rt := .int) (by decide +kernel) rfl (Nat.le_of_ble_eq_true rfl) ?_
  intro p e s m args below meth c sl9 A Q Z hnm Mz9 hl9 hret
  have Z : zC p s m args c cX0_nearestAbove 4 RX0 wsX0_nearestAbove D T A := Z
  have hx := Z.1.1
  have hb := Z.1.2.1
  have hts := Z.1.2.2.2.2
  have hin0 : ∀ w ∈ wsX00, w ∈ wsX0_nearestAbove := by decide +kernel
  have hin1 : ∀ w ∈ wsX10, w ∈ wsX0_nearestAbove := by decide +kernel
  have hl9 : lv_has sl9 4 [(0, .ref h), (1, .ref d), (2, .int (nI (j)))] := hl9
  refine lv_iconst (v := 1) hx hb dX0_nearestAbove_0 (by decide) ?_
  refine lv_istore_n (lv' := [(3, .int 1), (0, .ref h), (1, .ref d), (2, .int (nI (j)))]) hx hb dX0_nearestAbove_1 rfl hl9 (by decide) rfl (fun sl9 hl9 => ?_)
  have LP2_1 : ∀ (n2 k : Nat), k + n2 = 8 → (∀ mm : Nat, k + mm = 8 → gvr (ov0 α γ) j 7 = gvr (ov0 α γ) j mm) → ∀ (Hp9 : Heap) (lc9 : List Loc) (sl9 : Array Slot), zM D A s.heap (bidW h a q u d da T β α κ τ lf γ) Hp9 lc9 → lv_has sl9 4 [(0, .ref h), (1, .ref d), (2, .int (nI (j))), (3, .int (nI (k)))] → W p l e (zrm 1 22) s m args below meth c Hp9 lc9 0 0 Q (F0 m 2 sl9 []) := by
    intro n2
    induction n2 with
    | zero =>
      intro k hk9 h90 Hp9 lc9 sl9 Mz9 hl9
      obtain rfl : 8 = k := by omega
      refine lv_iload_n hx hb dX0_nearestAbove_2 rfl (lv_at hl9 3 rfl) ?_
      refine lv_bipush (v := 8) hx hb dX0_nearestAbove_3 (by decide) ?_
      refine zn_icmp_ge (a := 8) (b := 8) (tgt := 44) (by omega) (by decide) hx hb dX0_nearestAbove_5 (by decide) (fun _ => ?_) (fun h => absurd h (by omega))
      refine lv_iconst (v := (-1)) hx hb dX0_nearestAbove_44 (by decide) ?_
      exact hret _ _ _ _ _ sl9 _ _ Mz9 (rfl) (by rw [h90 0 (by omega)]; rfl) (rfl) (Nat.le_refl _) (Nat.le_refl _) dX0_nearestAbove_45
    | succ n2 ih2 =>
      intro k hk9 h90 Hp9 lc9 sl9 Mz9 hl9
      refine lv_iload_n hx hb dX0_nearestAbove_2 rfl (lv_at hl9 3 rfl) ?_
      refine lv_bipush (v := 8) hx hb dX0_nearestAbove_3 (by decide) ?_
      refine zn_icmp_ge (a := k) (b := 8) (tgt := 44) (by omega) (by decide) hx hb dX0_nearestAbove_5 (by decide) (fun h => absurd h (by omega)) (fun _ => ?_)
      by_cases ha1 : k ≤ j
      ·
        by_cases hc2 : 0 < ov0 α γ (j - k)
        ·
          refine lv_aload_n hx hb dX0_nearestAbove_8 rfl (lv_at hl9 0 rfl) ?_
          refine lv_aload_n hx hb dX0_nearestAbove_9 rfl (lv_at hl9 1 rfl) ?_
          refine lv_iload_n hx hb dX0_nearestAbove_10 rfl (lv_at hl9 2 rfl) ?_
          refine lv_iload_n hx hb dX0_nearestAbove_11 rfl (lv_at hl9 3 rfl) ?_
          refine zn_isub (a := j) (b := k) (by omega) hx hb dX0_nearestAbove_12 ?_
          refine z_callAi (As := [.ref d, .int (nI (j - k))]) (rest := []) (rv := if γ (j - k) < α (j - k) then 1 else 0) (wc' := bidW h a q u d da T β α κ τ lf γ) Z Mz9 (cb_hasMoreAt l D T h a q u d da β α κ τ lf γ (j - k) (by omega)) (cwV 2 hts gX0_nearestAbove_X0_hasMoreAt rfl rfl rfl (by decide +kernel) ⟨by decide, by decide⟩) (va_recv Z.2.1 Mz9.1 (ci := 1) (q0 := 0) rfl rfl) rfl hl9.1 (Nat.le_of_ble_eq_true rfl) dX0_nearestAbove_13 ⟨by decide, by decide⟩ rfl (fun Hp9 lc9 Mz9 => ?_)
          refine zn_top (y := 1) (if_pos ((ov0_pos hB hf hg (x := j - k) (by omega)).1.mp hc2)) ?_
          refine lv_if_eq (tgt := 23) hx hb dX0_nearestAbove_16 (by decide) (fun h => absurd h (by decide)) (fun _ => ?_)
          refine lv_iload_n hx hb dX0_nearestAbove_19 rfl (lv_at hl9 2 rfl) ?_
          refine lv_iload_n hx hb dX0_nearestAbove_20 rfl (lv_at hl9 3 rfl) ?_
          refine zn_isub (a := j) (b := k) (by omega) hx hb dX0_nearestAbove_21 ?_
          exact hret _ _ _ _ _ sl9 _ _ Mz9 (rfl) (by rw [h90 (n2 + 1) (by omega), gvr, show 7 - n2 = k by omega]; simp only [gv2, if_neg (Nat.not_lt.mpr ha1), if_pos hc2]) (rfl) (Nat.le_refl _) (Nat.le_refl _) dX0_nearestAbove_22
        ·
          refine lv_aload_n hx hb dX0_nearestAbove_8 rfl (lv_at hl9 0 rfl) ?_
          refine lv_aload_n hx hb dX0_nearestAbove_9 rfl (lv_at hl9 1 rfl) ?_
          refine lv_iload_n hx hb dX0_nearestAbove_10 rfl (lv_at hl9 2 rfl) ?_
          refine lv_iload_n hx hb dX0_nearestAbove_11 rfl (lv_at hl9 3 rfl) ?_
          refine zn_isub (a := j) (b := k) (by omega) hx hb dX0_nearestAbove_12 ?_
          refine z_callAi (As := [.ref d, .int (nI (j - k))]) (rest := []) (rv := if γ (j - k) < α (j - k) then 1 else 0) (wc' := bidW h a q u d da T β α κ τ lf γ) Z Mz9 (cb_hasMoreAt l D T h a q u d da β α κ τ lf γ (j - k) (by omega)) (cwV 2 hts gX0_nearestAbove_X0_hasMoreAt rfl rfl rfl (by decide +kernel) ⟨by decide, by decide⟩) (va_recv Z.2.1 Mz9.1 (ci := 1) (q0 := 0) rfl rfl) rfl hl9.1 (Nat.le_of_ble_eq_true rfl) dX0_nearestAbove_13 ⟨by decide, by decide⟩ rfl (fun Hp9 lc9 Mz9 => ?_)
          refine zn_top (y := 0) (if_neg (fun z => hc2 ((ov0_pos hB hf hg (x := j - k) (by omega)).1.mpr z))) ?_
          refine lv_if_eq (tgt := 23) hx hb dX0_nearestAbove_16 (by decide) (fun _ => ?_) (fun h => absurd h (by decide))
          by_cases hb3 : j + k < 8
          ·
            by_cases hc4 : 0 < ov0 α γ (j + k)
            ·
              refine lv_aload_n hx hb dX0_nearestAbove_23 rfl (lv_at hl9 0 rfl) ?_
              refine lv_aload_n hx hb dX0_nearestAbove_24 rfl (lv_at hl9 1 rfl) ?_
              refine lv_iload_n hx hb dX0_nearestAbove_25 rfl (lv_at hl9 2 rfl) ?_
              refine lv_iload_n hx hb dX0_nearestAbove_26 rfl (lv_at hl9 3 rfl) ?_
              refine zn_iadd (a := j) (b := k) hx hb dX0_nearestAbove_27 ?_
              refine z_callAi (As := [.ref d, .int (nI (j + k))]) (rest := []) (rv := if γ (j + k) < α (j + k) then 1 else 0) (wc' := bidW h a q u d da T β α κ τ lf γ) Z Mz9 (cb_hasMoreAt l D T h a q u d da β α κ τ lf γ (j + k) (by omega)) (cwV 2 hts gX0_nearestAbove_X0_hasMoreAt rfl rfl rfl (by decide +kernel) ⟨by decide, by decide⟩) (va_recv Z.2.1 Mz9.1 (ci := 1) (q0 := 0) rfl rfl) rfl hl9.1 (Nat.le_of_ble_eq_true rfl) dX0_nearestAbove_28 ⟨by decide, by decide⟩ rfl (fun Hp9 lc9 Mz9 => ?_)
              refine zn_top (y := 1) (if_pos ((ov0_pos hB hf hg (x := j + k) (by omega)).1.mp hc4)) ?_
              refine lv_if_eq (tgt := 38) hx hb dX0_nearestAbove_31 (by decide) (fun h => absurd h (by decide)) (fun _ => ?_)
              refine lv_iload_n hx hb dX0_nearestAbove_34 rfl (lv_at hl9 2 rfl) ?_
              refine lv_iload_n hx hb dX0_nearestAbove_35 rfl (lv_at hl9 3 rfl) ?_
              refine zn_iadd (a := j) (b := k) hx hb dX0_nearestAbove_36 ?_
              exact hret _ _ _ _ _ sl9 _ _ Mz9 (rfl) (by rw [h90 (n2 + 1) (by omega), gvr, show 7 - n2 = k by omega]; simp only [gv2, if_neg (Nat.not_lt.mpr ha1), if_neg hc2, if_pos hb3, if_pos hc4]) (rfl) (Nat.le_refl _) (Nat.le_refl _) dX0_nearestAbove_37
            ·
              refine lv_aload_n hx hb dX0_nearestAbove_23 rfl (lv_at hl9 0 rfl) ?_
              refine lv_aload_n hx hb dX0_nearestAbove_24 rfl (lv_at hl9 1 rfl) ?_
              refine lv_iload_n hx hb dX0_nearestAbove_25 rfl (lv_at hl9 2 rfl) ?_
              refine lv_iload_n hx hb dX0_nearestAbove_26 rfl (lv_at hl9 3 rfl) ?_
              refine zn_iadd (a := j) (b := k) hx hb dX0_nearestAbove_27 ?_
              refine z_callAi (As := [.ref d, .int (nI (j + k))]) (rest := []) (rv := if γ (j + k) < α (j + k) then 1 else 0) (wc' := bidW h a q u d da T β α κ τ lf γ) Z Mz9 (cb_hasMoreAt l D T h a q u d da β α κ τ lf γ (j + k) (by omega)) (cwV 2 hts gX0_nearestAbove_X0_hasMoreAt rfl rfl rfl (by decide +kernel) ⟨by decide, by decide⟩) (va_recv Z.2.1 Mz9.1 (ci := 1) (q0 := 0) rfl rfl) rfl hl9.1 (Nat.le_of_ble_eq_true rfl) dX0_nearestAbove_28 ⟨by decide, by decide⟩ rfl (fun Hp9 lc9 Mz9 => ?_)
              refine zn_top (y := 0) (if_neg (fun z => hc4 ((ov0_pos hB hf hg (x := j + k) (by omega)).1.mpr z))) ?_
              refine lv_if_eq (tgt := 38) hx hb dX0_nearestAbove_31 (by decide) (fun _ => ?_) (fun h => absurd h (by decide))
              refine lv_iinc (v := nI (k + 1)) (lv' := [(3, .int (nI (k + 1))), (0, .ref h), (1, .ref d), (2, .int (nI (j)))]) hx hb dX0_nearestAbove_38 hl9 (k := 3) rfl (nI_add (k) 1) (by decide) rfl (fun sl9 hl9 => ?_)
              refine lv_goto (tgt := 2) hx hb dX0_nearestAbove_41 (by decide) ?_
              exact ih2 (k + 1) (by omega) (fun mm hmm => by rw [h90 (mm + 1) (by omega), gvr, show 7 - mm = k by omega]; simp only [gv2, if_neg (Nat.not_lt.mpr ha1), if_neg hc2, if_pos hb3, if_neg hc4]) _ _ _ Mz9 (lv_sub hl9 [1, 2, 3, 0] rfl)
          ·
            refine lv_aload_n hx hb dX0_nearestAbove_23 rfl (lv_at hl9 0 rfl) ?_
            refine lv_aload_n hx hb dX0_nearestAbove_24 rfl (lv_at hl9 1 rfl) ?_
            refine lv_iload_n hx hb dX0_nearestAbove_25 rfl (lv_at hl9 2 rfl) ?_
            refine lv_iload_n hx hb dX0_nearestAbove_26 rfl (lv_at hl9 3 rfl) ?_
            refine zn_iadd (a := j) (b := k) hx hb dX0_nearestAbove_27 ?_
            refine z_callAi (As := [.ref d, .int (nI (j + k))]) (rest := []) (rv := 0) (wc' := bidW h a q u d da T β α κ τ lf γ) Z Mz9 (cb_hasMoreAt_out l D T h a q u d da β α κ τ lf γ (nI (j + k)) (Or.inr (nI_le (a := 8) (b := j + k) (Nat.not_lt.mp hb3) (by omega)))) (cwV 2 hts gX0_nearestAbove_X0_hasMoreAt rfl rfl rfl (by decide +kernel) ⟨by decide, by decide⟩) (va_recv Z.2.1 Mz9.1 (ci := 1) (q0 := 0) rfl rfl) rfl hl9.1 (Nat.le_of_ble_eq_true rfl) dX0_nearestAbove_28 ⟨by decide, by decide⟩ rfl (fun Hp9 lc9 Mz9 => ?_)
            refine lv_if_eq (tgt := 38) hx hb dX0_nearestAbove_31 (by decide) (fun _ => ?_) (fun h => absurd h (by decide))
            refine lv_iinc (v := nI (k + 1)) (lv' := [(3, .int (nI (k + 1))), (0, .ref h), (1, .ref d), (2, .int (nI (j)))]) hx hb dX0_nearestAbove_38 hl9 (k := 3) rfl (nI_add (k) 1) (by decide) rfl (fun sl9 hl9 => ?_)
            refine lv_goto (tgt := 2) hx hb dX0_nearestAbove_41 (by decide) ?_
            exact ih2 (k + 1) (by omega) (fun mm hmm => by rw [h90 (mm + 1) (by omega), gvr, show 7 - mm = k by omega]; simp only [gv2, if_neg (Nat.not_lt.mpr ha1), if_neg hc2, if_neg hb3]) _ _ _ Mz9 (lv_sub hl9 [1, 2, 3, 0] rfl)
      ·
        refine lv_aload_n hx hb dX0_nearestAbove_8 rfl (lv_at hl9 0 rfl) ?_
        refine lv_aload_n hx hb dX0_nearestAbove_9 rfl (lv_at hl9 1 rfl) ?_
        refine lv_iload_n hx hb dX0_nearestAbove_10 rfl (lv_at hl9 2 rfl) ?_
        refine lv_iload_n hx hb dX0_nearestAbove_11 rfl (lv_at hl9 3 rfl) ?_
        refine lv_isub hx hb dX0_nearestAbove_12 ?_
        refine z_callAi (As := [.ref d, .int ((nI (j)) - (nI (k)))]) (rest := []) (rv := 0) (wc' := bidW h a q u d da T β α κ τ lf γ) Z Mz9 (cb_hasMoreAt_out l D T h a q u d da β α κ τ lf γ ((nI (j)) - (nI (k))) (Or.inl (pk_sneg (by omega) (Nat.not_le.mp ha1)))) (cwV 2 hts gX0_nearestAbove_X0_hasMoreAt rfl rfl rfl (by decide +kernel) ⟨by decide, by decide⟩) (va_recv Z.2.1 Mz9.1 (ci := 1) (q0 := 0) rfl rfl) rfl hl9.1 (Nat.le_of_ble_eq_true rfl) dX0_nearestAbove_13 ⟨by decide, by decide⟩ rfl (fun Hp9 lc9 Mz9 => ?_)
        refine lv_if_eq (tgt := 23) hx hb dX0_nearestAbove_16 (by decide) (fun _ => ?_) (fun h => absurd h (by decide))
        by_cases hb5 : j + k < 8
        ·
          by_cases hc6 : 0 < ov0 α γ (j + k)
          ·
            refine lv_aload_n hx hb dX0_nearestAbove_23 rfl (lv_at hl9 0 rfl) ?_
            refine lv_aload_n hx hb dX0_nearestAbove_24 rfl (lv_at hl9 1 rfl) ?_
            refine lv_iload_n hx hb dX0_nearestAbove_25 rfl (lv_at hl9 2 rfl) ?_
            refine lv_iload_n hx hb dX0_nearestAbove_26 rfl (lv_at hl9 3 rfl) ?_
            refine zn_iadd (a := j) (b := k) hx hb dX0_nearestAbove_27 ?_
            refine z_callAi (As := [.ref d, .int (nI (j + k))]) (rest := []) (rv := if γ (j + k) < α (j + k) then 1 else 0) (wc' := bidW h a q u d da T β α κ τ lf γ) Z Mz9 (cb_hasMoreAt l D T h a q u d da β α κ τ lf γ (j + k) (by omega)) (cwV 2 hts gX0_nearestAbove_X0_hasMoreAt rfl rfl rfl (by decide +kernel) ⟨by decide, by decide⟩) (va_recv Z.2.1 Mz9.1 (ci := 1) (q0 := 0) rfl rfl) rfl hl9.1 (Nat.le_of_ble_eq_true rfl) dX0_nearestAbove_28 ⟨by decide, by decide⟩ rfl (fun Hp9 lc9 Mz9 => ?_)
            refine zn_top (y := 1) (if_pos ((ov0_pos hB hf hg (x := j + k) (by omega)).1.mp hc6)) ?_
            refine lv_if_eq (tgt := 38) hx hb dX0_nearestAbove_31 (by decide) (fun h => absurd h (by decide)) (fun _ => ?_)
            refine lv_iload_n hx hb dX0_nearestAbove_34 rfl (lv_at hl9 2 rfl) ?_
            refine lv_iload_n hx hb dX0_nearestAbove_35 rfl (lv_at hl9 3 rfl) ?_
            refine zn_iadd (a := j) (b := k) hx hb dX0_nearestAbove_36 ?_
            exact hret _ _ _ _ _ sl9 _ _ Mz9 (rfl) (by rw [h90 (n2 + 1) (by omega), gvr, show 7 - n2 = k by omega]; simp only [gv2, if_pos (Nat.not_le.mp ha1), if_pos hb5, if_pos hc6]) (rfl) (Nat.le_refl _) (Nat.le_refl _) dX0_nearestAbove_37
          ·
            refine lv_aload_n hx hb dX0_nearestAbove_23 rfl (lv_at hl9 0 rfl) ?_
            refine lv_aload_n hx hb dX0_nearestAbove_24 rfl (lv_at hl9 1 rfl) ?_
            refine lv_iload_n hx hb dX0_nearestAbove_25 rfl (lv_at hl9 2 rfl) ?_
            refine lv_iload_n hx hb dX0_nearestAbove_26 rfl (lv_at hl9 3 rfl) ?_
            refine zn_iadd (a := j) (b := k) hx hb dX0_nearestAbove_27 ?_
            refine z_callAi (As := [.ref d, .int (nI (j + k))]) (rest := []) (rv := if γ (j + k) < α (j + k) then 1 else 0) (wc' := bidW h a q u d da T β α κ τ lf γ) Z Mz9 (cb_hasMoreAt l D T h a q u d da β α κ τ lf γ (j + k) (by omega)) (cwV 2 hts gX0_nearestAbove_X0_hasMoreAt rfl rfl rfl (by decide +kernel) ⟨by decide, by decide⟩) (va_recv Z.2.1 Mz9.1 (ci := 1) (q0 := 0) rfl rfl) rfl hl9.1 (Nat.le_of_ble_eq_true rfl) dX0_nearestAbove_28 ⟨by decide, by decide⟩ rfl (fun Hp9 lc9 Mz9 => ?_)
            refine zn_top (y := 0) (if_neg (fun z => hc6 ((ov0_pos hB hf hg (x := j + k) (by omega)).1.mpr z))) ?_
            refine lv_if_eq (tgt := 38) hx hb dX0_nearestAbove_31 (by decide) (fun _ => ?_) (fun h => absurd h (by decide))
            refine lv_iinc (v := nI (k + 1)) (lv' := [(3, .int (nI (k + 1))), (0, .ref h), (1, .ref d), (2, .int (nI (j)))]) hx hb dX0_nearestAbove_38 hl9 (k := 3) rfl (nI_add (k) 1) (by decide) rfl (fun sl9 hl9 => ?_)
            refine lv_goto (tgt := 2) hx hb dX0_nearestAbove_41 (by decide) ?_
            exact ih2 (k + 1) (by omega) (fun mm hmm => by rw [h90 (mm + 1) (by omega), gvr, show 7 - mm = k by omega]; simp only [gv2, if_pos (Nat.not_le.mp ha1), if_pos hb5, if_neg hc6]) _ _ _ Mz9 (lv_sub hl9 [1, 2, 3, 0] rfl)
        ·
          refine lv_aload_n hx hb dX0_nearestAbove_23 rfl (lv_at hl9 0 rfl) ?_
          refine lv_aload_n hx hb dX0_nearestAbove_24 rfl (lv_at hl9 1 rfl) ?_
          refine lv_iload_n hx hb dX0_nearestAbove_25 rfl (lv_at hl9 2 rfl) ?_
          refine lv_iload_n hx hb dX0_nearestAbove_26 rfl (lv_at hl9 3 rfl) ?_
          refine zn_iadd (a := j) (b := k) hx hb dX0_nearestAbove_27 ?_
          refine z_callAi (As := [.ref d, .int (nI (j + k))]) (rest := []) (rv := 0) (wc' := bidW h a q u d da T β α κ τ lf γ) Z Mz9 (cb_hasMoreAt_out l D T h a q u d da β α κ τ lf γ (nI (j + k)) (Or.inr (nI_le (a := 8) (b := j + k) (Nat.not_lt.mp hb5) (by omega)))) (cwV 2 hts gX0_nearestAbove_X0_hasMoreAt rfl rfl rfl (by decide +kernel) ⟨by decide, by decide⟩) (va_recv Z.2.1 Mz9.1 (ci := 1) (q0 := 0) rfl rfl) rfl hl9.1 (Nat.le_of_ble_eq_true rfl) dX0_nearestAbove_28 ⟨by decide, by decide⟩ rfl (fun Hp9 lc9 Mz9 => ?_)
          refine lv_if_eq (tgt := 38) hx hb dX0_nearestAbove_31 (by decide) (fun _ => ?_) (fun h => absurd h (by decide))
          refine lv_iinc (v := nI (k + 1)) (lv' := [(3, .int (nI (k + 1))), (0, .ref h), (1, .ref d), (2, .int (nI (j)))]) hx hb dX0_nearestAbove_38 hl9 (k := 3) rfl (nI_add (k) 1) (by decide) rfl (fun sl9 hl9 => ?_)
          refine lv_goto (tgt := 2) hx hb dX0_nearestAbove_41 (by decide) ?_
          exact ih2 (k + 1) (by omega) (fun mm hmm => by rw [h90 (mm + 1) (by omega), gvr, show 7 - mm = k by omega]; simp only [gv2, if_pos (Nat.not_le.mp ha1), if_neg hb5]) _ _ _ Mz9 (lv_sub hl9 [1, 2, 3, 0] rfl)
  exact LP2_1 (8 - 1) (1) (by omega) (fun mm hmm => by rw [show mm = 7 by omega]) _ _ _ Mz9 (lv_sub hl9 [1, 2, 3, 0] rfl)
