/-! ===== laid by program ===== -/
set_option maxHeartbeats 4000000 in
set_option maxRecDepth 100000 in
theorem cm_fills (l : Launch) (D : va_G) (T : Nat → ClassId) (o : Nat) (ad : Nat → Nat) (σ : Nat → Nat → Int32) (i d m9 : Nat) (hi : i < 12) (hd : d < 4) (hm : m9 < 2 ^ 31) : ZV l yX6_fills wsX6_fills (zrm 2 47) D T (mW o ad T σ) (mW o ad T (upS σ 7 (FL (σ 22) (8 * i) (8 * d) m9 (σ 7)))) [.ref o, .int (nI (i)), .int (nI (d)), .int (nI (m9))] 0 0 := by
  simp only [FL_eq]
  refine z_inV (cc := cX6_fills) (maxL := 7) (by decide +kernel) rfl (Nat.le_of_ble_eq_true rfl) ?_
  intro p e s m args below meth c sl9 A Q Z hnm Mz9 hl9 hret
  have Z : zC p s m args c cX6_fills 7 RX6 wsX6_fills D T A := Z
  have hx := Z.1.1
  have hb := Z.1.2.1
  have hts := Z.1.2.2.2.2
  have hin6 : ∀ w ∈ wsX60, w ∈ wsX6_fills := fun w h => List.mem_cons_of_mem _ (List.mem_append_right _ h)
  have hH0 : s.heap = s.heap := rfl
  have L25 := hts (.fieldLink RX6 25 "AnvilHouseModel" "areas" "[I") (by decide +kernel)
  have hl9 : lv_has sl9 7 [(0, .ref o), (1, .int (nI (i))), (2, .int (nI (d))), (3, .int (nI (m9)))] := hl9
  refine lv_iload_n hx hb dX6_fills_0 rfl (lv_at hl9 3 rfl) ?_
  refine lv_istore (lv' := [(4, .int (nI (m9))), (0, .ref o), (1, .int (nI (i))), (2, .int (nI (d))), (3, .int (nI (m9)))]) hx hb dX6_fills_1 hl9 (by decide) rfl (fun sl9 hl9 => ?_)
  refine lv_iconst (v := 0) hx hb dX6_fills_3 (by decide) ?_
  refine lv_istore (lv' := [(5, .int 0), (4, .int (nI (m9))), (0, .ref o), (1, .int (nI (i))), (2, .int (nI (d))), (3, .int (nI (m9)))]) hx hb dX6_fills_4 hl9 (by decide) rfl (fun sl9 hl9 => ?_)
  have LP6_1 : ∀ (n6 k : Nat) (f9 : Nat → Int32) (l9 : Nat), k + n6 = 8 → (∀ mm : Nat, k + mm = 8 → fls (σ 22) (8 * i) (8 * d) 8 m9 (σ 7) = fls (σ 22) (8 * i) (8 * d) mm l9 f9) → l9 ≤ m9 → ∀ (Hp9 : Heap) (lc9 : List Loc) (sl9 : Array Slot), zM D A s.heap (mW o ad T (upS σ 7 (f9))) Hp9 lc9 → lv_has sl9 7 [(0, .ref o), (1, .int (nI (i))), (2, .int (nI (d))), (3, .int (nI (m9))), (4, .int (nI (l9))), (5, .int (nI (k)))] → W p l e (zrm 2 47) s m args below meth c Hp9 lc9 0 0 Q (F0 m 6 sl9 []) := by
    intro n6
    induction n6 with
    | zero =>
      intro k f9 l9 hk9 h60 h61 Hp9 lc9 sl9 Mz9 hl9
      obtain rfl : 8 = k := by omega
      refine lv_iload hx hb dX6_fills_6 (lv_at hl9 5 rfl) ?_
      refine lv_bipush (v := 8) hx hb dX6_fills_8 (by decide) ?_
      refine zn_icmp_ge (a := 8) (b := 8) (tgt := 99) (by omega) (by decide) hx hb dX6_fills_10 (by decide) (fun _ => ?_) (fun h => absurd h (by omega))
      exact hret _ _ _ _ _ sl9 _ Mz9 (by rw [h60 0 (by omega)]; rfl) (Nat.le_refl _) (Nat.le_refl _) dX6_fills_99
    | succ n6 ih6 =>
      intro k f9 l9 hk9 h60 h61 Hp9 lc9 sl9 Mz9 hl9
      refine lv_iload hx hb dX6_fills_6 (lv_at hl9 5 rfl) ?_
      refine lv_bipush (v := 8) hx hb dX6_fills_8 (by decide) ?_
      refine zn_icmp_ge (a := k) (b := 8) (tgt := 99) (by omega) (by decide) hx hb dX6_fills_10 (by decide) (fun h => absurd h (by omega)) (fun _ => ?_)
      refine lv_aload_n hx hb dX6_fills_13 rfl (lv_at hl9 0 rfl) ?_
      refine lv_iload_n hx hb dX6_fills_14 rfl (lv_at hl9 1 rfl) ?_
      refine lv_iload_n hx hb dX6_fills_15 rfl (lv_at hl9 2 rfl) ?_
      refine lv_iload hx hb dX6_fills_16 (lv_at hl9 5 rfl) ?_
      refine z_callAi (As := [.int (nI (i)), .int (nI (d)), .int (nI (k))]) (rest := []) (rv := GV (ovr f9 (σ 22) (8 * i) (8 * d)) k) (wc' := mW o ad T (upS σ 7 (f9))) Z Mz9 (cm_giver l D T o ad (upS σ 7 (f9)) (i) (d) (k) (by omega) (by omega) (by omega)) (cwV 3 hts gX6_fills_X6_giver rfl rfl rfl (by decide +kernel) ⟨by decide, by decide⟩) (va_recv Z.2.1 Mz9.1 (ci := 7) (q0 := 0) rfl rfl) rfl hl9.1 (Nat.le_of_ble_eq_true rfl) dX6_fills_18 ⟨by decide, by decide⟩ rfl (fun Hp9 lc9 Mz9 => ?_)
      refine lv_istore (lv' := [(6, .int (GV (ovr f9 (σ 22) (8 * i) (8 * d)) k)), (0, .ref o), (1, .int (nI (i))), (2, .int (nI (d))), (3, .int (nI (m9))), (4, .int (nI (l9))), (5, .int (nI (k)))]) hx hb dX6_fills_21 hl9 (by decide) rfl (fun sl9 hl9 => ?_)
      have LP23_1 : ∀ (lk : Nat) (f8 : Nat → Int32), flo (σ 22) (8 * i) (8 * d) k l9 f9 = flo (σ 22) (8 * i) (8 * d) k (lk) f8 → lk ≤ m9 → ∀ (Hp9 : Heap) (lc9 : List Loc) (sl9 : Array Slot), zM D A s.heap (mW o ad T (upS σ 7 (f8))) Hp9 lc9 → lv_has sl9 7 [(0, .ref o), (1, .int (nI (i))), (2, .int (nI (d))), (3, .int (nI (m9))), (4, .int (nI (lk))), (5, .int (nI (k))), (6, .int (GV (ovr f8 (σ 22) (8 * i) (8 * d)) k))] → W p l e (zrm 2 47) s m args below meth c Hp9 lc9 0 0 Q (F0 m 23 sl9 []) := by
        intro lk
        induction lk with
        | zero =>
          intro f8 h230 h231 Hp9 lc9 sl9 Mz9 hl9
          refine lv_iload hx hb dX6_fills_23 (lv_at hl9 4 rfl) ?_
          refine zn_if_le (a := 0) (tgt := 93) (by omega) hx hb dX6_fills_25 (by decide) (fun _ => ?_) (fun h => absurd h (by decide))
          refine lv_iinc (v := nI (k + 1)) (lv' := [(5, .int (nI (k + 1))), (0, .ref o), (1, .int (nI (i))), (2, .int (nI (d))), (3, .int (nI (m9))), (4, .int (nI (0))), (6, .int (GV (ovr f8 (σ 22) (8 * i) (8 * d)) k))]) hx hb dX6_fills_93 hl9 (k := 5) rfl (nI_add (k) 1) (by decide) rfl (fun sl9 hl9 => ?_)
          refine lv_goto (tgt := 6) hx hb dX6_fills_96 (by decide) ?_
          exact ih6 (k + 1) f8 0 (by omega) (fun mm hmm => by rw [h60 (mm + 1) (by omega), fls, show 7 - mm = k by omega, h230]; simp only [flo]) (by omega) _ _ _ Mz9 (lv_sub hl9 [1, 2, 3, 4, 5, 0] rfl)
        | succ lk ih23 =>
          intro f8 h230 h231 Hp9 lc9 sl9 Mz9 hl9
          refine lv_iload hx hb dX6_fills_23 (lv_at hl9 4 rfl) ?_
          refine zn_if_le (a := lk + 1) (tgt := 93) (by omega) hx hb dX6_fills_25 (by decide) (fun h => absurd h (by omega)) (fun _ => ?_)
          refine lv_iload hx hb dX6_fills_28 (lv_at hl9 6 rfl) ?_
          refine lv_iconst (v := (-1)) hx hb dX6_fills_30 (by decide) ?_
          refine lv_icmp_eq (tgt := 93) hx hb dX6_fills_31 (by decide) (fun c_1 => ?_) (fun c_1 => ?_)
          ·
            refine lv_iinc (v := nI (k + 1)) (lv' := [(5, .int (nI (k + 1))), (0, .ref o), (1, .int (nI (i))), (2, .int (nI (d))), (3, .int (nI (m9))), (4, .int (nI (lk + 1))), (6, .int (GV (ovr f8 (σ 22) (8 * i) (8 * d)) k))]) hx hb dX6_fills_93 hl9 (k := 5) rfl (nI_add (k) 1) (by decide) rfl (fun sl9 hl9 => ?_)
            refine lv_goto (tgt := 6) hx hb dX6_fills_96 (by decide) ?_
            exact ih6 (k + 1) f8 (lk + 1) (by omega) (fun mm hmm => by rw [h60 (mm + 1) (by omega), fls, show 7 - mm = k by omega, h230]; simp only [flo, if_pos c_1]) (by omega) _ _ _ Mz9 (lv_sub hl9 [1, 2, 3, 4, 5, 0] rfl)
          ·
            refine lv_aload_n hx hb dX6_fills_34 rfl (lv_at hl9 0 rfl) ?_
            refine lv_iload_n hx hb dX6_fills_35 rfl (lv_at hl9 1 rfl) ?_
            refine lv_iload_n hx hb dX6_fills_36 rfl (lv_at hl9 2 rfl) ?_
            refine lv_iload hx hb dX6_fills_37 (lv_at hl9 5 rfl) ?_
            refine z_callAi (As := [.int (nI (i)), .int (nI (d)), .int (nI (k))]) (rest := []) (rv := ovr f8 (σ 22) (8 * i) (8 * d) k) (wc' := mW o ad T (upS σ 7 (f8))) Z Mz9 (cm_over l D T o ad (upS σ 7 (f8)) (i) (d) (k) (by omega) (by omega) (by omega)) (cwV 3 hts gX6_fills_X6_over rfl rfl rfl (by decide +kernel) ⟨by decide, by decide⟩) (va_recv Z.2.1 Mz9.1 (ci := 7) (q0 := 0) rfl rfl) rfl hl9.1 (Nat.le_of_ble_eq_true rfl) dX6_fills_39 ⟨by decide, by decide⟩ rfl (fun Hp9 lc9 Mz9 => ?_)
            refine lv_if_ge (tgt := 93) hx hb dX6_fills_42 (by decide) (fun c_2 => ?_) (fun c_2 => ?_)
            ·
              refine lv_iinc (v := nI (k + 1)) (lv' := [(5, .int (nI (k + 1))), (0, .ref o), (1, .int (nI (i))), (2, .int (nI (d))), (3, .int (nI (m9))), (4, .int (nI (lk + 1))), (6, .int (GV (ovr f8 (σ 22) (8 * i) (8 * d)) k))]) hx hb dX6_fills_93 hl9 (k := 5) rfl (nI_add (k) 1) (by decide) rfl (fun sl9 hl9 => ?_)
              refine lv_goto (tgt := 6) hx hb dX6_fills_96 (by decide) ?_
              exact ih6 (k + 1) f8 (lk + 1) (by omega) (fun mm hmm => by rw [h60 (mm + 1) (by omega), fls, show 7 - mm = k by omega, h230]; simp only [flo, if_neg c_1, if_neg (Int32.not_lt.mpr c_2)]) (by omega) _ _ _ Mz9 (lv_sub hl9 [1, 2, 3, 4, 5, 0] rfl)
            ·
              obtain ⟨q, hq, hqk, hq0, eq9⟩ := (GV_cases (ovr f8 (σ 22) (8 * i) (8 * d)) k (by omega)).resolve_left c_1
              have hl9 : lv_has sl9 7 [(0, .ref o), (1, .int (nI (i))), (2, .int (nI (d))), (3, .int (nI (m9))), (4, .int (nI (lk + 1))), (5, .int (nI (k))), (6, .int (nI (q)))] := lv_w (show ([(0, .ref o), (1, .int (nI (i))), (2, .int (nI (d))), (3, .int (nI (m9))), (4, .int (nI (lk + 1))), (5, .int (nI (k))), (6, .int (GV (ovr f8 (σ 22) (8 * i) (8 * d)) k))] : List (Nat × Value)) = [(0, .ref o), (1, .int (nI (i))), (2, .int (nI (d))), (3, .int (nI (m9))), (4, .int (nI (lk + 1))), (5, .int (nI (k))), (6, .int (nI (q)))] from by rw [eq9]) hl9
              refine lv_aload_n hx hb dX6_fills_45 rfl (lv_at hl9 0 rfl) ?_
              refine z_getf Z Mz9 hin6 0 rfl rfl 7 (by decide) L25 rfl (v := .ref (ad 7)) rfl dX6_fills_46 ?_
              refine lv_bipush (v := 8) hx hb dX6_fills_49 (by decide) ?_
              refine lv_iload_n hx hb dX6_fills_51 rfl (lv_at hl9 1 rfl) ?_
              refine zn_imul (a := 8) (b := i) hx hb dX6_fills_52 ?_
              refine lv_iload hx hb dX6_fills_53 (lv_at hl9 6 rfl) ?_
              refine zn_iadd (a := 8 * i) (b := q) hx hb dX6_fills_55 ?_
              refine lv_dup2_11 hx hb dX6_fills_56 rfl rfl ?_
              refine z_iald Z Mz9 6 (h0 := ad 7) (n := 96) (f := f8) rfl (j := (8 * i) + q) (by omega) (by decide) dX6_fills_57 ?_
              refine lv_iconst (v := 1) hx hb dX6_fills_58 (by decide) ?_
              refine lv_isub hx hb dX6_fills_59 ?_
              refine z_iast Z Mz9 6 (h0 := ad 7) (n := 96) (f := f8) rfl (j := (8 * i) + q) (x := (f8 ((8 * i) + q)) - 1) (by omega) (by decide) (ws' := mW o ad T (upS σ 7 (upd f8 ((8 * i) + q) ((f8 ((8 * i) + q)) - 1)))) rfl dX6_fills_60 (fun Hp9 lc9 Mz9 => ?_)
              refine lv_aload_n hx hb dX6_fills_61 rfl (lv_at hl9 0 rfl) ?_
              refine z_getf Z Mz9 hin6 0 rfl rfl 7 (by decide) L25 rfl (v := .ref (ad 7)) rfl dX6_fills_62 ?_
              refine lv_bipush (v := 8) hx hb dX6_fills_65 (by decide) ?_
              refine lv_iload_n hx hb dX6_fills_67 rfl (lv_at hl9 1 rfl) ?_
              refine zn_imul (a := 8) (b := i) hx hb dX6_fills_68 ?_
              refine lv_iload hx hb dX6_fills_69 (lv_at hl9 5 rfl) ?_
              refine zn_iadd (a := 8 * i) (b := k) hx hb dX6_fills_71 ?_
              refine lv_dup2_11 hx hb dX6_fills_72 rfl rfl ?_
              refine z_iald Z Mz9 6 (h0 := ad 7) (n := 96) (f := upd f8 ((8 * i) + q) ((f8 ((8 * i) + q)) - 1)) rfl (j := (8 * i) + k) (by omega) (by decide) dX6_fills_73 ?_
              refine lv_iconst (v := 1) hx hb dX6_fills_74 (by decide) ?_
              refine lv_iadd hx hb dX6_fills_75 ?_
              refine z_iast Z Mz9 6 (h0 := ad 7) (n := 96) (f := upd f8 ((8 * i) + q) ((f8 ((8 * i) + q)) - 1)) rfl (j := (8 * i) + k) (x := ((upd f8 ((8 * i) + q) ((f8 ((8 * i) + q)) - 1)) ((8 * i) + k)) + 1) (by omega) (by decide) (ws' := mW o ad T (upS σ 7 (upd (upd f8 ((8 * i) + q) ((f8 ((8 * i) + q)) - 1)) ((8 * i) + k) (((upd f8 ((8 * i) + q) ((f8 ((8 * i) + q)) - 1)) ((8 * i) + k)) + 1)))) rfl dX6_fills_76 (fun Hp9 lc9 Mz9 => ?_)
              refine lv_iinc (v := nI (lk)) (lv' := [(4, .int (nI (lk))), (0, .ref o), (1, .int (nI (i))), (2, .int (nI (d))), (3, .int (nI (m9))), (5, .int (nI (k))), (6, .int (nI (q)))]) hx hb dX6_fills_77 hl9 (k := 4) rfl (z_pred (by omega)) (by decide) rfl (fun sl9 hl9 => ?_)
              refine lv_aload_n hx hb dX6_fills_80 rfl (lv_at hl9 1 rfl) ?_
              refine lv_iload_n hx hb dX6_fills_81 rfl (lv_at hl9 2 rfl) ?_
              refine lv_iload_n hx hb dX6_fills_82 rfl (lv_at hl9 3 rfl) ?_
              refine lv_iload hx hb dX6_fills_83 (lv_at hl9 5 rfl) ?_
              refine z_callAi (As := [.int (nI (i)), .int (nI (d)), .int (nI (k))]) (rest := []) (rv := GV (ovr (upd (upd f8 ((8 * i) + q) ((f8 ((8 * i) + q)) - 1)) ((8 * i) + k) (((upd f8 ((8 * i) + q) ((f8 ((8 * i) + q)) - 1)) ((8 * i) + k)) + 1)) (σ 22) (8 * i) (8 * d)) k) (wc' := mW o ad T (upS σ 7 (upd (upd f8 ((8 * i) + q) ((f8 ((8 * i) + q)) - 1)) ((8 * i) + k) (((upd f8 ((8 * i) + q) ((f8 ((8 * i) + q)) - 1)) ((8 * i) + k)) + 1)))) Z Mz9 (cm_giver l D T o ad (upS σ 7 (upd (upd f8 ((8 * i) + q) ((f8 ((8 * i) + q)) - 1)) ((8 * i) + k) (((upd f8 ((8 * i) + q) ((f8 ((8 * i) + q)) - 1)) ((8 * i) + k)) + 1))) (i) (d) (k) (by omega) (by omega) (by omega)) (cwV 3 hts gX6_fills_X6_giver rfl rfl rfl (by decide +kernel) ⟨by decide, by decide⟩) (va_recv Z.2.1 Mz9.1 (ci := 7) (q0 := 0) rfl rfl) rfl hl9.1 (Nat.le_of_ble_eq_true rfl) dX6_fills_85 ⟨by decide, by decide⟩ rfl (fun Hp9 lc9 Mz9 => ?_)
              refine lv_istore (lv' := [(6, .int (GV (ovr (upd (upd f8 ((8 * i) + q) ((f8 ((8 * i) + q)) - 1)) ((8 * i) + k) (((upd f8 ((8 * i) + q) ((f8 ((8 * i) + q)) - 1)) ((8 * i) + k)) + 1)) (σ 22) (8 * i) (8 * d)) k)), (4, .int (nI (lk))), (0, .ref o), (1, .int (nI (i))), (2, .int (nI (d))), (3, .int (nI (m9))), (5, .int (nI (k)))]) hx hb dX6_fills_88 hl9 (by decide) rfl (fun sl9 hl9 => ?_)
              refine lv_goto (tgt := 23) hx hb dX6_fills_90 (by decide) ?_
              exact ih23 (upd (upd f8 ((8 * i) + q) ((f8 ((8 * i) + q)) - 1)) ((8 * i) + k) (((upd f8 ((8 * i) + q) ((f8 ((8 * i) + q)) - 1)) ((8 * i) + k)) + 1)) (by rw [h230, flo, if_neg c_1, if_pos (Int32.not_le.mp c_2), eq9, nI_clamp (by omega)]) (by omega) _ _ _ Mz9 (lv_sub hl9 [2, 3, 4, 5, 1, 6, 0] rfl)
      exact LP23_1 l9 f9 (rfl) (h61) _ _ _ Mz9 (lv_sub hl9 [1, 2, 3, 4, 5, 6, 0] rfl)
  exact LP6_1 (8 - 0) (0) (σ 7) m9 (by omega) (fun mm hmm => by rw [show mm = 8 by omega]) (Nat.le_refl _) _ _ _ (zM_w (by rw [upS_id]) Mz9) (lv_sub hl9 [2, 3, 4, 5, 1, 0] rfl)
