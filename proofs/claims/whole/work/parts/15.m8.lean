/-! ===== laid by program ===== -/
set_option maxHeartbeats 4000000 in
set_option maxRecDepth 100000 in
theorem cm_finds (l : Launch) (D : va_G) (T : Nat → ClassId) (o : Nat) (ad : Nat → Nat) (σ : Nat → Nat → Int32) (q : Nat) (hq : q < 256) : ZV l yX6_finds wsX6_finds (zrm 1 24) D T (mW o ad T σ) (mW o ad T (upS (upS σ 29 ((BF (σ 29) (σ 30) q).1)) 30 ((BF (σ 29) (σ 30) q).2.1))) [.ref o, .int (nI (q))] 0 0 := by
  refine z_inV (cc := cX6_finds) (maxL := 6) (by decide +kernel) rfl (Nat.le_of_ble_eq_true rfl) ?_
  intro p e s m args below meth c sl9 A Q Z hnm Mz9 hl9 hret
  have Z : zC p s m args c cX6_finds 6 RX6 wsX6_finds D T A := Z
  have hx := Z.1.1
  have hb := Z.1.2.1
  have hts := Z.1.2.2.2.2
  have hin6 : ∀ w ∈ wsX60, w ∈ wsX6_finds := fun w h => List.mem_cons_of_mem _ (List.mem_append_right _ h)
  have hH0 : s.heap = s.heap := rfl
  have L80 := hts (.fieldLink RX6 80 "AnvilHouseModel" "far" "[I") (by decide +kernel)
  have L83 := hts (.fieldLink RX6 83 "AnvilHouseModel" "queue" "[I") (by decide +kernel)
  have hl9 : lv_has sl9 6 [(0, .ref o), (1, .int (nI (q)))] := hl9
  refine lv_iconst (v := 0) hx hb dX6_finds_0 (by decide) ?_
  refine lv_istore_n (lv' := [(2, .int 0), (0, .ref o), (1, .int (nI (q)))]) hx hb dX6_finds_1 rfl hl9 (by decide) rfl (fun sl9 hl9 => ?_)
  have LP2_1 : ∀ (n2 k : Nat), k + n2 = 256 → ∀ (Hp9 : Heap) (lc9 : List Loc) (sl9 : Array Slot), zM D A s.heap (mW o ad T (upS σ 29 (fi0 (σ 29) (-1) (k)))) Hp9 lc9 → lv_has sl9 6 [(0, .ref o), (1, .int (nI (q))), (2, .int (nI (k)))] → W p l e (zrm 1 24) s m args below meth c Hp9 lc9 0 0 Q (F0 m 2 sl9 []) := by
    intro n2
    induction n2 with
    | zero =>
      intro k hk9 Hp9 lc9 sl9 Mz9 hl9
      obtain rfl : 256 = k := by omega
      refine lv_iload_n hx hb dX6_finds_2 rfl (lv_at hl9 2 rfl) ?_
      refine lv_sipush (v := 256) hx hb dX6_finds_3 (by decide) ?_
      refine zn_icmp_ge (a := 256) (b := 256) (tgt := 22) (by omega) (by decide) hx hb dX6_finds_6 (by decide) (fun _ => ?_) (fun h => absurd h (by omega))
      refine lv_aload_n hx hb dX6_finds_22 rfl (lv_at hl9 0 rfl) ?_
      refine z_getf Z Mz9 hin6 0 rfl rfl 29 (by decide) L80 rfl (v := .ref (ad 29)) rfl dX6_finds_23 ?_
      refine lv_iload_n hx hb dX6_finds_26 rfl (lv_at hl9 1 rfl) ?_
      refine lv_iconst (v := 0) hx hb dX6_finds_27 (by decide) ?_
      refine z_iast Z Mz9 24 (h0 := ad 29) (n := 256) (f := fi0 (σ 29) (-1) (256)) rfl (j := q) (x := 0) (by omega) (by decide) (ws' := mW o ad T (upS σ 29 (upd (fi0 (σ 29) (-1) (256)) q 0))) rfl dX6_finds_28 (fun Hp9 lc9 Mz9 => ?_)
      refine lv_aload_n hx hb dX6_finds_29 rfl (lv_at hl9 0 rfl) ?_
      refine z_getf Z Mz9 hin6 0 rfl rfl 30 (by decide) L83 rfl (v := .ref (ad 30)) rfl dX6_finds_30 ?_
      refine lv_iconst (v := 0) hx hb dX6_finds_33 (by decide) ?_
      refine lv_iload_n hx hb dX6_finds_34 rfl (lv_at hl9 1 rfl) ?_
      refine z_iast Z Mz9 25 (h0 := ad 30) (n := 256) (f := σ 30) rfl (j := 0) (x := nI (q)) (by omega) (by decide) (ws' := mW o ad T (upS (upS σ 29 (upd (fi0 (σ 29) (-1) (256)) q 0)) 30 (upd (σ 30) 0 (nI (q))))) rfl dX6_finds_35 (fun Hp9 lc9 Mz9 => ?_)
      obtain ⟨F1, hF1⟩ : ∃ z, z = upd (fi0 (σ 29) (-1) 256) q 0 := ⟨_, rfl⟩
      have Mz9 : zM D A s.heap (mW o ad T (upS (upS σ 29 (F1)) 30 (upd (σ 30) 0 (nI (q))))) _ _ := zM_w (by rw [hF1]) Mz9
      refine lv_iconst (v := 1) hx hb dX6_finds_36 (by decide) ?_
      refine lv_istore_n (lv' := [(2, .int 1), (0, .ref o), (1, .int (nI (q)))]) hx hb dX6_finds_37 rfl hl9 (by decide) rfl (fun sl9 hl9 => ?_)
      refine lv_iconst (v := 0) hx hb dX6_finds_38 (by decide) ?_
      refine lv_istore_n (lv' := [(3, .int 0), (2, .int 1), (0, .ref o), (1, .int (nI (q)))]) hx hb dX6_finds_39 rfl hl9 (by decide) rfl (fun sl9 hl9 => ?_)
      have LP40_1 : ∀ (n40 k : Nat) (f9 : Nat → Int32) (q9 : Nat → Int32) (m9 : Nat), k + n40 = 257 → bW (f9, q9, m9) → (∀ nn : Nat, k + nn = 257 → bfR 257 0 (upd (fi0 (σ 29) (-1) 256) q 0, upd (σ 30) 0 (nI q), 1) = bfR nn (k) (f9, q9, m9)) → ∀ (Hp9 : Heap) (lc9 : List Loc) (sl9 : Array Slot), zM D A s.heap (mW o ad T (upS (upS σ 29 (f9)) 30 (q9))) Hp9 lc9 → lv_has sl9 6 [(0, .ref o), (1, .int (nI (q))), (2, .int (nI (m9))), (3, .int (nI (k)))] → W p l e (zrm 1 24) s m args below meth c Hp9 lc9 0 0 Q (F0 m 40 sl9 []) := by
        intro n40
        induction n40 with
        | zero =>
          intro k f9 q9 m9 hk9 h70 h71 Hp9 lc9 sl9 Mz9 hl9
          obtain rfl : 257 = k := by omega
          refine lv_iload_n hx hb dX6_finds_40 rfl (lv_at hl9 3 rfl) ?_
          refine lv_iload_n hx hb dX6_finds_41 rfl (lv_at hl9 2 rfl) ?_
          refine zn_icmp_ge (a := 257) (b := m9) (tgt := 121) (by have := bW_le h70; have h99 : m9 ≤ 256 := this; omega) (by have := bW_le h70; have h99 : m9 ≤ 256 := this; omega) hx hb dX6_finds_42 (by decide) (fun _ => ?_) (fun h => absurd h (by have := bW_le h70; have h99 : m9 ≤ 256 := this; omega))
          exact hret _ _ _ _ _ sl9 _ Mz9 (by rw [BF_eq, h71 0 (by omega)]; rfl) (Nat.le_refl _) (Nat.le_refl _) dX6_finds_121
        | succ n40 ih40 =>
          intro k f9 q9 m9 hk9 h70 h71 Hp9 lc9 sl9 Mz9 hl9
          refine lv_iload_n hx hb dX6_finds_40 rfl (lv_at hl9 3 rfl) ?_
          refine lv_iload_n hx hb dX6_finds_41 rfl (lv_at hl9 2 rfl) ?_
          refine zn_icmp_ge (a := k) (b := m9) (tgt := 121) (by have := bW_le h70; have h99 : m9 ≤ 256 := this; omega) (by have := bW_le h70; have h99 : m9 ≤ 256 := this; omega) hx hb dX6_finds_42 (by decide) (fun c_1 => ?_) (fun c_1 => ?_)
          ·
            exact hret _ _ _ _ _ sl9 _ Mz9 (by rw [BF_eq, h71 (n40 + 1) (by omega), bfR, if_neg (Nat.not_lt.mpr c_1)]) (Nat.le_refl _) (Nat.le_refl _) dX6_finds_121
          ·
            have hk8 : k < m9 := Nat.not_le.mp c_1
            obtain ⟨x, hx8, hQk, hFk⟩ := h70.1 k hk8
            have hin : ∀ a, a ≤ 3 → bW (bfA (f9, q9, m9) x a) ∧ (bfA (f9, q9, m9) x a).2.1 k = nI x ∧ m9 ≤ (bfA (f9, q9, m9) x a).2.2 := bW_A h70 hk8 hx8 hQk
            refine lv_iconst (v := 0) hx hb dX6_finds_45 (by decide) ?_
            refine lv_istore (lv' := [(4, .int 0), (0, .ref o), (1, .int (nI (q))), (2, .int (nI (m9))), (3, .int (nI (k)))]) hx hb dX6_finds_46 hl9 (by decide) rfl (fun sl9 hl9 => ?_)
            have LP48_1 : ∀ (n48 a : Nat), a + n48 = 3 → ∀ (Hp9 : Heap) (lc9 : List Loc) (sl9 : Array Slot), zM D A s.heap (mW o ad T (upS (upS σ 29 ((bfA (f9, q9, m9) x (a)).1)) 30 ((bfA (f9, q9, m9) x (a)).2.1))) Hp9 lc9 → lv_has sl9 6 [(0, .ref o), (1, .int (nI (q))), (2, .int (nI ((bfA (f9, q9, m9) x (a)).2.2))), (3, .int (nI (k))), (4, .int (nI (a)))] → W p l e (zrm 1 24) s m args below meth c Hp9 lc9 0 0 Q (F0 m 48 sl9 []) := by
              intro n48
              induction n48 with
              | zero =>
                intro a hk9 Hp9 lc9 sl9 Mz9 hl9
                obtain rfl : 3 = a := by omega
                refine lv_iload hx hb dX6_finds_48 (lv_at hl9 4 rfl) ?_
                refine lv_iconst (v := 2) hx hb dX6_finds_50 (by decide) ?_
                refine zn_icmp_gt (a := 3) (b := 2) (tgt := 115) (by omega) (by decide) hx hb dX6_finds_51 (by decide) (fun _ => ?_) (fun h => absurd h (by omega))
                refine lv_iinc (v := nI (k + 1)) (lv' := [(3, .int (nI (k + 1))), (0, .ref o), (1, .int (nI (q))), (2, .int (nI ((bfA (f9, q9, m9) x (3)).2.2))), (4, .int (nI (3)))]) hx hb dX6_finds_115 hl9 (k := 3) rfl (nI_add (k) 1) (by decide) rfl (fun sl9 hl9 => ?_)
                refine lv_goto (tgt := 40) hx hb dX6_finds_118 (by decide) ?_
                exact ih40 (k + 1) ((bfA (f9, q9, m9) x 3).1) ((bfA (f9, q9, m9) x 3).2.1) ((bfA (f9, q9, m9) x 3).2.2) (by omega) ((hin 3 (Nat.le_refl 3)).1) (fun nn hnn => by rw [h71 (nn + 1) (by omega), bfR, if_pos hk8, show (q9 k).toNatClampNeg = x by rw [show q9 k = nI x from hQk, nI_clamp (by omega)]]) _ _ _ Mz9 (lv_sub hl9 [1, 2, 3, 0] rfl)
              | succ n48 ih48 =>
                intro a hk9 Hp9 lc9 sl9 Mz9 hl9
                refine lv_iload hx hb dX6_finds_48 (lv_at hl9 4 rfl) ?_
                refine lv_iconst (v := 2) hx hb dX6_finds_50 (by decide) ?_
                refine zn_icmp_gt (a := a) (b := 2) (tgt := 115) (by omega) (by decide) hx hb dX6_finds_51 (by decide) (fun h => absurd h (by omega)) (fun _ => ?_)
                obtain ⟨g0, g1, g2⟩ := hin a (by omega)
                have g3 := bW_le g0
                have g4 := (actN_ok x hx8 a (by omega)).2
                have g5 := (bW_1 g0 (k := k) (by omega) hx8 g1 (a := a) (by omega)).2.2.2
                refine lv_aload_n hx hb dX6_finds_54 rfl (lv_at hl9 0 rfl) ?_
                refine z_getf Z Mz9 hin6 0 rfl rfl 30 (by decide) L83 rfl (v := .ref (ad 30)) rfl dX6_finds_55 ?_
                refine lv_iload_n hx hb dX6_finds_58 rfl (lv_at hl9 3 rfl) ?_
                refine z_iald Z Mz9 25 (h0 := ad 30) (n := 256) (f := (bfA (f9, q9, m9) x (a)).2.1) rfl (j := k) (by omega) (by decide) dX6_finds_59 ?_
                refine zn_top (y := nI (x)) (g1) ?_
                refine lv_iload hx hb dX6_finds_60 (lv_at hl9 4 rfl) ?_
                refine z_callSi (As := [.int (nI (x)), .int (nI (a))]) (rest := []) Z.1 (cm_acted l (nI (x)) (a) (by omega)) (va_cwS 2 hts gX6_finds_X6_acted rfl rfl rfl (by decide +kernel) ⟨by decide, by decide⟩) rfl hl9.1 (Nat.le_of_ble_eq_true rfl) dX6_finds_62 ⟨by decide, by decide⟩ rfl ?_
                refine zn_top (y := nI (actN x a)) (AC_N hx8 (by omega)) ?_
                refine lv_istore (lv' := [(5, .int (nI (actN x a))), (0, .ref o), (1, .int (nI (q))), (2, .int (nI ((bfA (f9, q9, m9) x (a)).2.2))), (3, .int (nI (k))), (4, .int (nI (a)))]) hx hb dX6_finds_65 hl9 (by decide) rfl (fun sl9 hl9 => ?_)
                refine lv_aload_n hx hb dX6_finds_67 rfl (lv_at hl9 1 rfl) ?_
                refine z_getf Z Mz9 hin6 0 rfl rfl 29 (by decide) L80 rfl (v := .ref (ad 29)) rfl dX6_finds_68 ?_
                refine lv_iload hx hb dX6_finds_71 (lv_at hl9 0 rfl) ?_
                refine z_iald Z Mz9 24 (h0 := ad 29) (n := 256) (f := (bfA (f9, q9, m9) x (a)).1) rfl (j := actN x a) (by omega) (by decide) dX6_finds_73 ?_
                refine lv_iconst (v := (-1)) hx hb dX6_finds_74 (by decide) ?_
                refine lv_icmp_ne (tgt := 109) hx hb dX6_finds_75 (by decide) (fun c_2 => ?_) (fun c_2 => ?_)
                ·
                  refine lv_iinc (v := nI (a + 1)) (lv' := [(4, .int (nI (a + 1))), (5, .int (nI (actN x a))), (0, .ref o), (1, .int (nI (q))), (2, .int (nI ((bfA (f9, q9, m9) x (a)).2.2))), (3, .int (nI (k)))]) hx hb dX6_finds_109 hl9 (k := 5) rfl (nI_add (a) 1) (by decide) rfl (fun sl9 hl9 => ?_)
                  refine lv_goto (tgt := 48) hx hb dX6_finds_112 (by decide) ?_
                  exact ih48 (a + 1) (by omega)  _ _ _ (zM_w (by simp only [bfA, bf1, if_neg c_2]) Mz9) (lv_w (show ([(0, .ref o), (1, .int (nI (q))), (2, .int (nI ((bfA (f9, q9, m9) x (a)).2.2))), (3, .int (nI (k))), (4, .int (nI (a + 1)))] : List (Nat × Value)) = [(0, .ref o), (1, .int (nI (q))), (2, .int (nI ((bfA (f9, q9, m9) x (a + 1)).2.2))), (3, .int (nI (k))), (4, .int (nI (a + 1)))] from by simp only [bfA, bf1, if_neg c_2]) (lv_sub hl9 [2, 3, 4, 5, 0] rfl))
                ·
                  have g6 := g5 c_2
                  refine lv_aload_n hx hb dX6_finds_78 rfl (lv_at hl9 1 rfl) ?_
                  refine z_getf Z Mz9 hin6 0 rfl rfl 29 (by decide) L80 rfl (v := .ref (ad 29)) rfl dX6_finds_79 ?_
                  refine lv_iload hx hb dX6_finds_82 (lv_at hl9 0 rfl) ?_
                  refine lv_aload_n hx hb dX6_finds_84 rfl (lv_at hl9 1 rfl) ?_
                  refine z_getf Z Mz9 hin6 0 rfl rfl 29 (by decide) L80 rfl (v := .ref (ad 29)) rfl dX6_finds_85 ?_
                  refine lv_aload_n hx hb dX6_finds_88 rfl (lv_at hl9 1 rfl) ?_
                  refine z_getf Z Mz9 hin6 0 rfl rfl 30 (by decide) L83 rfl (v := .ref (ad 30)) rfl dX6_finds_89 ?_
                  refine lv_iload_n hx hb dX6_finds_92 rfl (lv_at hl9 4 rfl) ?_
                  refine z_iald Z Mz9 25 (h0 := ad 30) (n := 256) (f := (bfA (f9, q9, m9) x (a)).2.1) rfl (j := k) (by omega) (by decide) dX6_finds_93 ?_
                  refine zn_top (y := nI (x)) (g1) ?_
                  refine z_iald Z Mz9 24 (h0 := ad 29) (n := 256) (f := (bfA (f9, q9, m9) x (a)).1) rfl (j := x) (by omega) (by decide) dX6_finds_94 ?_
                  refine lv_iconst (v := 1) hx hb dX6_finds_95 (by decide) ?_
                  refine lv_iadd hx hb dX6_finds_96 ?_
                  refine z_iast Z Mz9 24 (h0 := ad 29) (n := 256) (f := (bfA (f9, q9, m9) x (a)).1) rfl (j := actN x a) (x := (((bfA (f9, q9, m9) x (a)).1) x) + 1) (by omega) (by decide) (ws' := mW o ad T (upS (upS σ 29 (upd ((bfA (f9, q9, m9) x (a)).1) (actN x a) ((((bfA (f9, q9, m9) x (a)).1) x) + 1))) 30 ((bfA (f9, q9, m9) x (a)).2.1))) rfl dX6_finds_97 (fun Hp9 lc9 Mz9 => ?_)
                  refine lv_aload_n hx hb dX6_finds_98 rfl (lv_at hl9 1 rfl) ?_
                  refine z_getf Z Mz9 hin6 0 rfl rfl 30 (by decide) L83 rfl (v := .ref (ad 30)) rfl dX6_finds_99 ?_
                  refine lv_iload_n hx hb dX6_finds_102 rfl (lv_at hl9 3 rfl) ?_
                  refine lv_iload hx hb dX6_finds_103 (lv_at hl9 0 rfl) ?_
                  refine z_iast Z Mz9 25 (h0 := ad 30) (n := 256) (f := (bfA (f9, q9, m9) x (a)).2.1) rfl (j := (bfA (f9, q9, m9) x (a)).2.2) (x := nI (actN x a)) (by omega) (by decide) (ws' := mW o ad T (upS (upS σ 29 (upd ((bfA (f9, q9, m9) x (a)).1) (actN x a) ((((bfA (f9, q9, m9) x (a)).1) x) + 1))) 30 (upd ((bfA (f9, q9, m9) x (a)).2.1) ((bfA (f9, q9, m9) x (a)).2.2) (nI (actN x a))))) rfl dX6_finds_105 (fun Hp9 lc9 Mz9 => ?_)
                  refine lv_iinc (v := nI (((bfA (f9, q9, m9) x (a)).2.2) + 1)) (lv' := [(2, .int (nI (((bfA (f9, q9, m9) x (a)).2.2) + 1))), (5, .int (nI (actN x a))), (0, .ref o), (1, .int (nI (q))), (3, .int (nI (k))), (4, .int (nI (a)))]) hx hb dX6_finds_106 hl9 (k := 3) rfl (nI_add ((bfA (f9, q9, m9) x (a)).2.2) 1) (by decide) rfl (fun sl9 hl9 => ?_)
                  refine lv_iinc (v := nI (a + 1)) (lv' := [(4, .int (nI (a + 1))), (2, .int (nI (((bfA (f9, q9, m9) x (a)).2.2) + 1))), (5, .int (nI (actN x a))), (0, .ref o), (1, .int (nI (q))), (3, .int (nI (k)))]) hx hb dX6_finds_109 hl9 (k := 5) rfl (nI_add (a) 1) (by decide) rfl (fun sl9 hl9 => ?_)
                  refine lv_goto (tgt := 48) hx hb dX6_finds_112 (by decide) ?_
                  exact ih48 (a + 1) (by omega)  _ _ _ (zM_w (by simp only [bfA, bf1, if_pos c_2]) Mz9) (lv_w (show ([(0, .ref o), (1, .int (nI (q))), (2, .int (nI (((bfA (f9, q9, m9) x (a)).2.2) + 1))), (3, .int (nI (k))), (4, .int (nI (a + 1)))] : List (Nat × Value)) = [(0, .ref o), (1, .int (nI (q))), (2, .int (nI ((bfA (f9, q9, m9) x (a + 1)).2.2))), (3, .int (nI (k))), (4, .int (nI (a + 1)))] from by simp only [bfA, bf1, if_pos c_2]) (lv_sub hl9 [3, 4, 1, 5, 0] rfl))
            exact LP48_1 (3 - 0) (0) (by omega)  _ _ _ Mz9 (lv_sub hl9 [1, 2, 3, 4, 0] rfl)
      exact LP40_1 (257 - 0) (0) F1 (upd (σ 30) 0 (nI q)) 1 (by omega) (by rw [hF1]; exact bW_0 _ _ hq) (fun nn hnn => by rw [show nn = 257 by omega, hF1]) _ _ _ Mz9 (lv_sub hl9 [2, 3, 1, 0] rfl)
    | succ n2 ih2 =>
      intro k hk9 Hp9 lc9 sl9 Mz9 hl9
      refine lv_iload_n hx hb dX6_finds_2 rfl (lv_at hl9 2 rfl) ?_
      refine lv_sipush (v := 256) hx hb dX6_finds_3 (by decide) ?_
      refine zn_icmp_ge (a := k) (b := 256) (tgt := 22) (by omega) (by decide) hx hb dX6_finds_6 (by decide) (fun h => absurd h (by omega)) (fun _ => ?_)
      refine lv_aload_n hx hb dX6_finds_9 rfl (lv_at hl9 0 rfl) ?_
      refine z_getf Z Mz9 hin6 0 rfl rfl 29 (by decide) L80 rfl (v := .ref (ad 29)) rfl dX6_finds_10 ?_
      refine lv_iload_n hx hb dX6_finds_13 rfl (lv_at hl9 2 rfl) ?_
      refine lv_iconst (v := (-1)) hx hb dX6_finds_14 (by decide) ?_
      refine z_iast Z Mz9 24 (h0 := ad 29) (n := 256) (f := fi0 (σ 29) (-1) (k)) rfl (j := k) (x := (-1)) (by omega) (by decide) (ws' := mW o ad T (upS σ 29 (upd (fi0 (σ 29) (-1) (k)) k (-1)))) rfl dX6_finds_15 (fun Hp9 lc9 Mz9 => ?_)
      refine lv_iinc (v := nI (k + 1)) (lv' := [(2, .int (nI (k + 1))), (0, .ref o), (1, .int (nI (q)))]) hx hb dX6_finds_16 hl9 (k := 2) rfl (nI_add (k) 1) (by decide) rfl (fun sl9 hl9 => ?_)
      refine lv_goto (tgt := 2) hx hb dX6_finds_19 (by decide) ?_
      exact ih2 (k + 1) (by omega)  _ _ _ Mz9 (lv_sub hl9 [1, 2, 0] rfl)
  exact LP2_1 (256 - 0) (0) (by omega)  _ _ _ (zM_w (by simp only [fi0, upS_id]) Mz9) (lv_sub hl9 [1, 2, 0] rfl)
