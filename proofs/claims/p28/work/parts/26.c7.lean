/-! ===== laid by program ===== -/
abbrev flW (a n : Nat) (T : Nat → ClassId) (f : Nat → Int32) : va_W := [(a, .inl (T 0, n, .inl f))]
set_option maxHeartbeats 4000000 in
set_option maxRecDepth 100000 in
theorem cb_fill (l : Launch) (D : va_G) (T : Nat → ClassId) (a n : Nat) (f : Nat → Int32) (v : Int32) (hn : n < 2 ^ 31) : ZV l yJ7_fill_53178 wsJ7_fill_53178 (zrm 0 0) D T (flW a n T f) (flW a n T (fi0 f v n)) [.ref a, .int v] 0 0 := by
  refine z_inV (cc := cJ7_fill_53178) (maxL := 4) (by decide +kernel) rfl (Nat.le_of_ble_eq_true rfl) ?_
  intro p e s m args below meth c sl9 A Q Z hnm Mz9 hl9 hret
  have Z : zC p s m args c cJ7_fill_53178 4 RJ7 wsJ7_fill_53178 D T A := Z
  have hx := Z.1.1
  have hb := Z.1.2.1
  have hts := Z.1.2.2.2.2
  have hl9 : lv_has sl9 4 [(0, .ref a), (1, .int (v))] := hl9
  refine lv_iconst (v := 0) hx hb dJ7_fill_53178_0 (by decide) ?_
  refine lv_istore_n (lv' := [(2, .int 0), (0, .ref a), (1, .int (v))]) hx hb dJ7_fill_53178_1 rfl hl9 (by decide) rfl (fun sl9 hl9 => ?_)
  refine lv_aload_n hx hb dJ7_fill_53178_2 rfl (lv_at hl9 1 rfl) ?_
  refine z_alen Z Mz9 0 (h0 := a) (n := n) (f := f) rfl dJ7_fill_53178_3 ?_
  refine lv_istore_n (lv' := [(3, .int (nI (n))), (2, .int 0), (0, .ref a), (1, .int (v))]) hx hb dJ7_fill_53178_4 rfl hl9 (by decide) rfl (fun sl9 hl9 => ?_)
  have LP5_1 : ∀ (n5 k : Nat), k + n5 = n → ∀ (Hp9 : Heap) (lc9 : List Loc) (sl9 : Array Slot), zM D A s.heap (flW a n T (fi0 f v (k))) Hp9 lc9 → lv_has sl9 4 [(0, .ref a), (1, .int (v)), (2, .int (nI (k))), (3, .int (nI (n)))] → W p l e (zrm 0 0) s m args below meth c Hp9 lc9 0 0 Q (F0 m 5 sl9 []) := by
    intro n5
    induction n5 with
    | zero =>
      intro k hk9 Hp9 lc9 sl9 Mz9 hl9
      obtain rfl : n = k := by omega
      refine lv_iload_n hx hb dJ7_fill_53178_5 rfl (lv_at hl9 2 rfl) ?_
      refine lv_iload_n hx hb dJ7_fill_53178_6 rfl (lv_at hl9 3 rfl) ?_
      refine zn_icmp_ge (a := n) (b := n) (tgt := 20) (by omega) (by omega) hx hb dJ7_fill_53178_7 (by decide) (fun _ => ?_) (fun h => absurd h (by omega))
      exact hret _ _ _ _ _ sl9 _ Mz9 (rfl) (Nat.le_refl _) (Nat.le_refl _) dJ7_fill_53178_20
    | succ n5 ih5 =>
      intro k hk9 Hp9 lc9 sl9 Mz9 hl9
      refine lv_iload_n hx hb dJ7_fill_53178_5 rfl (lv_at hl9 2 rfl) ?_
      refine lv_iload_n hx hb dJ7_fill_53178_6 rfl (lv_at hl9 3 rfl) ?_
      refine zn_icmp_ge (a := k) (b := n) (tgt := 20) (by omega) (by omega) hx hb dJ7_fill_53178_7 (by decide) (fun h => absurd h (by omega)) (fun _ => ?_)
      refine lv_aload_n hx hb dJ7_fill_53178_10 rfl (lv_at hl9 0 rfl) ?_
      refine lv_iload_n hx hb dJ7_fill_53178_11 rfl (lv_at hl9 2 rfl) ?_
      refine lv_iload_n hx hb dJ7_fill_53178_12 rfl (lv_at hl9 1 rfl) ?_
      refine z_iast Z Mz9 0 (h0 := a) (n := n) (f := fi0 f v (k)) rfl (j := k) (x := v) (by omega) hn (ws' := flW a n T (upd (fi0 f v (k)) k v)) rfl dJ7_fill_53178_13 (fun Hp9 lc9 Mz9 => ?_)
      refine lv_iinc (v := nI (k + 1)) (lv' := [(2, .int (nI (k + 1))), (0, .ref a), (1, .int (v)), (3, .int (nI (n)))]) hx hb dJ7_fill_53178_14 hl9 (k := 2) rfl (nI_add (k) 1) (by decide) rfl (fun sl9 hl9 => ?_)
      refine lv_goto (tgt := 5) hx hb dJ7_fill_53178_17 (by decide) ?_
      exact ih5 (k + 1) (by omega)  _ _ _ Mz9 (lv_sub hl9 [1, 2, 0, 3] rfl)
  exact LP5_1 (n - 0) (0) (by omega)  _ _ _ Mz9 (lv_sub hl9 [2, 3, 1, 0] rfl)
theorem cb_fill256 (l : Launch) (D : va_G) (T : Nat → ClassId) (a : Nat) (f : Nat → Int32) (v : Int32) : ZV l yJ7_fill_53178 wsJ7_fill_53178 (zrm 0 0) D T (flW a 256 T f) (flW a 256 T (FI0 f v)) [.ref a, .int v] 0 0 := by
  rw [FI0_eq]
  exact cb_fill l D T a 256 f v (by decide)
theorem cb_fill8 (l : Launch) (D : va_G) (T : Nat → ClassId) (a : Nat) (f : Nat → Int32) (v : Int32) : ZV l yJ7_fill_53178 wsJ7_fill_53178 (zrm 0 0) D T (flW a 8 T f) (flW a 8 T (fi0 f v 8)) [.ref a, .int v] 0 0 := cb_fill l D T a 8 f v (by decide)
set_option maxRecDepth 100000 in
theorem and255 : ∀ q, q < 256 → nI q &&& 255 = nI q := by decide +kernel
set_option maxHeartbeats 4000000 in
set_option maxRecDepth 100000 in
theorem cs_folded (l : Launch) (x : Int32) : ZS l yX2_folded wsX2_folded (zrm 0 0) [.int (x)] (folI x 4) := by
  refine z_inS (cc := cX2_folded) (maxL := 5) (rt := .int) (by decide +kernel) rfl (Nat.le_of_ble_eq_true rfl) ?_
  intro p e s m args below meth c sl9 Q Z hl9 hret
  have Z : CallFix p m c cX2_folded 5 s args wsX2_folded RX2 := Z
  have hx := Z.1
  have hb := Z.2.1
  have hts := Z.2.2.2.2
  generalize hH : s.heap = Hp9 at hret ⊢
  have hl9 : lv_has sl9 5 [(0, .int (x))] := hl9
  refine lv_iconst (v := 0) hx hb dX2_folded_0 (by decide) ?_
  refine lv_istore_n (lv' := [(1, .int 0), (0, .int (x))]) hx hb dX2_folded_1 rfl hl9 (by decide) rfl (fun sl9 hl9 => ?_)
  refine lv_iconst (v := 0) hx hb dX2_folded_2 (by decide) ?_
  refine lv_istore_n (lv' := [(2, .int 0), (1, .int 0), (0, .int (x))]) hx hb dX2_folded_3 rfl hl9 (by decide) rfl (fun sl9 hl9 => ?_)
  have LP4_1 : ∀ (n4 k : Nat), k + n4 = 4 → ∀ (sl9 : Array Slot), True → lv_has sl9 5 [(0, .int (x)), (1, .int (folI x (k))), (2, .int (nI (k)))] → W p l e (zrm 0 0) s m args below meth c Hp9 [] 0 0 Q (F0 m 4 sl9 []) := by
    intro n4
    induction n4 with
    | zero =>
      intro k hk9 sl9 Mz9 hl9
      obtain rfl : 4 = k := by omega
      refine lv_iload_n hx hb dX2_folded_4 rfl (lv_at hl9 2 rfl) ?_
      refine lv_iconst (v := 4) hx hb dX2_folded_5 (by decide) ?_
      refine zn_icmp_ge (a := 4) (b := 4) (tgt := 48) (by omega) (by decide) hx hb dX2_folded_6 (by decide) (fun _ => ?_) (fun h => absurd h (by omega))
      refine lv_iload_n hx hb dX2_folded_48 rfl (lv_at hl9 1 rfl) ?_
      exact hret _ sl9 _ (rfl) (rfl) dX2_folded_49
    | succ n4 ih4 =>
      intro k hk9 sl9 Mz9 hl9
      refine lv_iload_n hx hb dX2_folded_4 rfl (lv_at hl9 2 rfl) ?_
      refine lv_iconst (v := 4) hx hb dX2_folded_5 (by decide) ?_
      refine zn_icmp_ge (a := k) (b := 4) (tgt := 48) (by omega) (by decide) hx hb dX2_folded_6 (by decide) (fun h => absurd h (by omega)) (fun _ => ?_)
      refine lv_iload_n hx hb dX2_folded_9 rfl (lv_at hl9 0 rfl) ?_
      refine lv_iload_n hx hb dX2_folded_10 rfl (lv_at hl9 2 rfl) ?_
      refine lv_iushr (v := (x.toUInt32 >>> ((nI (k)).toUInt32 &&& Int32.toUInt32 31)).toInt32) hx hb dX2_folded_11 rfl ?_
      refine lv_iconst (v := 1) hx hb dX2_folded_12 (by decide) ?_
      refine lv_iand hx hb dX2_folded_13 ?_
      refine lv_istore_n (lv' := [(3, .int (((x.toUInt32 >>> ((nI (k)).toUInt32 &&& Int32.toUInt32 31)).toInt32) &&& 1)), (0, .int (x)), (1, .int (folI x (k))), (2, .int (nI (k)))]) hx hb dX2_folded_14 rfl hl9 (by decide) rfl (fun sl9 hl9 => ?_)
      refine lv_iload_n hx hb dX2_folded_15 rfl (lv_at hl9 1 rfl) ?_
      refine lv_bipush (v := 7) hx hb dX2_folded_16 (by decide) ?_
      refine lv_iload_n hx hb dX2_folded_18 rfl (lv_at hl9 3 rfl) ?_
      refine zn_isub (a := 7) (b := k) (by omega) hx hb dX2_folded_19 ?_
      refine lv_iushr (v := (x.toUInt32 >>> ((nI (7 - k)).toUInt32 &&& Int32.toUInt32 31)).toInt32) hx hb dX2_folded_20 rfl ?_
      refine lv_iconst (v := 1) hx hb dX2_folded_21 (by decide) ?_
      refine lv_iand hx hb dX2_folded_22 ?_
      refine lv_istore (lv' := [(4, .int (((x.toUInt32 >>> ((nI (7 - k)).toUInt32 &&& Int32.toUInt32 31)).toInt32) &&& 1)), (3, .int (((x.toUInt32 >>> ((nI (k)).toUInt32 &&& Int32.toUInt32 31)).toInt32) &&& 1)), (0, .int (x)), (1, .int (folI x (k))), (2, .int (nI (k)))]) hx hb dX2_folded_23 hl9 (by decide) rfl (fun sl9 hl9 => ?_)
      refine lv_iload_n hx hb dX2_folded_25 rfl (lv_at hl9 3 rfl) ?_
      refine lv_iload_n hx hb dX2_folded_26 rfl (lv_at hl9 1 rfl) ?_
      refine lv_iconst (v := 2) hx hb dX2_folded_27 (by decide) ?_
      refine lv_iload_n hx hb dX2_folded_28 rfl (lv_at hl9 4 rfl) ?_
      refine zn_imul (a := 2) (b := k) hx hb dX2_folded_29 ?_
      refine lv_ishl hx hb dX2_folded_30 ?_
      refine lv_iload hx hb dX2_folded_31 (lv_at hl9 0 rfl) ?_
      refine lv_iconst (v := 2) hx hb dX2_folded_33 (by decide) ?_
      refine lv_iload_n hx hb dX2_folded_34 rfl (lv_at hl9 4 rfl) ?_
      refine zn_imul (a := 2) (b := k) hx hb dX2_folded_35 ?_
      refine lv_iconst (v := 1) hx hb dX2_folded_36 (by decide) ?_
      refine zn_iadd (a := 2 * k) (b := 1) hx hb dX2_folded_37 ?_
      refine lv_ishl hx hb dX2_folded_38 ?_
      refine lv_ior hx hb dX2_folded_39 ?_
      refine lv_ior hx hb dX2_folded_40 ?_
      refine lv_istore_n (lv' := [(1, .int ((folI x (k)) ||| (((((x.toUInt32 >>> ((nI (k)).toUInt32 &&& Int32.toUInt32 31)).toInt32) &&& 1) <<< ((nI (2 * k)) &&& 31)) ||| ((((x.toUInt32 >>> ((nI (7 - k)).toUInt32 &&& Int32.toUInt32 31)).toInt32) &&& 1) <<< ((nI ((2 * k) + 1)) &&& 31))))), (4, .int (((x.toUInt32 >>> ((nI (7 - k)).toUInt32 &&& Int32.toUInt32 31)).toInt32) &&& 1)), (3, .int (((x.toUInt32 >>> ((nI (k)).toUInt32 &&& Int32.toUInt32 31)).toInt32) &&& 1)), (0, .int (x)), (2, .int (nI (k)))]) hx hb dX2_folded_41 rfl hl9 (by decide) rfl (fun sl9 hl9 => ?_)
      refine lv_iinc (v := nI (k + 1)) (lv' := [(2, .int (nI (k + 1))), (1, .int ((folI x (k)) ||| (((((x.toUInt32 >>> ((nI (k)).toUInt32 &&& Int32.toUInt32 31)).toInt32) &&& 1) <<< ((nI (2 * k)) &&& 31)) ||| ((((x.toUInt32 >>> ((nI (7 - k)).toUInt32 &&& Int32.toUInt32 31)).toInt32) &&& 1) <<< ((nI ((2 * k) + 1)) &&& 31))))), (4, .int (((x.toUInt32 >>> ((nI (7 - k)).toUInt32 &&& Int32.toUInt32 31)).toInt32) &&& 1)), (3, .int (((x.toUInt32 >>> ((nI (k)).toUInt32 &&& Int32.toUInt32 31)).toInt32) &&& 1)), (0, .int (x))]) hx hb dX2_folded_42 hl9 (k := 4) rfl (nI_add (k) 1) (by decide) rfl (fun sl9 hl9 => ?_)
      refine lv_goto (tgt := 4) hx hb dX2_folded_45 (by decide) ?_
      exact ih4 (k + 1) (by omega)  _ trivial (lv_w (show ([(0, .int (x)), (1, .int ((folI x (k)) ||| (((((x.toUInt32 >>> ((nI (k)).toUInt32 &&& Int32.toUInt32 31)).toInt32) &&& 1) <<< ((nI (2 * k)) &&& 31)) ||| ((((x.toUInt32 >>> ((nI (7 - k)).toUInt32 &&& Int32.toUInt32 31)).toInt32) &&& 1) <<< ((nI ((2 * k) + 1)) &&& 31))))), (2, .int (nI (k + 1)))] : List (Nat × Value)) = [(0, .int (x)), (1, .int (folI x (k + 1))), (2, .int (nI (k + 1)))] from by simp only [folI, ush]) (lv_sub hl9 [4, 1, 0] rfl))
  exact LP4_1 (4 - 0) (0) (by omega)  _ trivial (lv_sub hl9 [2, 1, 0] rfl)
set_option maxHeartbeats 4000000 in
set_option maxRecDepth 100000 in
theorem cs_behind (l : Launch) (x a : Nat) (hx9 : x < 256) (ha9 : a < 3) : ZS l yX2_behind wsX2_behind (zrm 1 24) [.int (nI (x)), .int (nI (a))] (nI (actN x a)) := by
  refine z_inS (cc := cX2_behind) (maxL := 3) (rt := .int) (by decide +kernel) rfl (Nat.le_of_ble_eq_true rfl) ?_
  intro p e s m args below meth c sl9 Q Z hl9 hret
  have Z : CallFix p m c cX2_behind 3 s args wsX2_behind RX2 := Z
  have hx := Z.1
  have hb := Z.2.1
  have hts := Z.2.2.2.2
  generalize hH : s.heap = Hp9 at hret ⊢
  have hl9 : lv_has sl9 3 [(0, .int (nI (x))), (1, .int (nI (a)))] := hl9
  refine lv_iload_n hx hb dX2_behind_0 rfl (lv_at hl9 1 rfl) ?_
  refine zn_if_ne (a := a) (tgt := 9) (by omega) hx hb dX2_behind_1 (by decide) (fun c_1 => ?_) (fun c_1 => ?_)
  ·
    refine lv_iload_n hx hb dX2_behind_9 rfl (lv_at hl9 1 rfl) ?_
    refine lv_iconst (v := 1) hx hb dX2_behind_10 (by decide) ?_
    refine zn_icmp_ne (a := a) (b := 1) (tgt := 18) (by omega) (by decide) hx hb dX2_behind_11 (by decide) (fun c_2 => ?_) (fun c_2 => ?_)
    ·
      refine lv_iconst (v := 4) hx hb dX2_behind_18 (by decide) ?_
      refine lv_istore_n (lv' := [(2, .int 4), (0, .int (nI (x))), (1, .int (nI (a)))]) hx hb dX2_behind_19 rfl hl9 (by decide) rfl (fun sl9 hl9 => ?_)
      refine lv_iload_n hx hb dX2_behind_20 rfl (lv_at hl9 1 rfl) ?_
      refine lv_iload_n hx hb dX2_behind_21 rfl (lv_at hl9 0 rfl) ?_
      refine lv_ishl hx hb dX2_behind_22 ?_
      refine lv_iload_n hx hb dX2_behind_23 rfl (lv_at hl9 1 rfl) ?_
      refine lv_bipush (v := 8) hx hb dX2_behind_24 (by decide) ?_
      refine lv_iload_n hx hb dX2_behind_26 rfl (lv_at hl9 0 rfl) ?_
      refine lv_isub hx hb dX2_behind_27 ?_
      refine zn_top (y := 4) (by decide) ?_
      refine lv_iushr (v := ((nI (x)).toUInt32 >>> ((4 : Int32).toUInt32 &&& Int32.toUInt32 31)).toInt32) hx hb dX2_behind_28 rfl ?_
      refine lv_ior hx hb dX2_behind_29 ?_
      refine lv_sipush (v := 255) hx hb dX2_behind_30 (by decide) ?_
      refine lv_iand hx hb dX2_behind_33 ?_
      exact hret _ sl9 _ (by rw [show a = 2 by omega]; exact (beh_ok x hx9).2.2) (rfl) dX2_behind_34
    ·
      refine lv_iconst (v := 1) hx hb dX2_behind_14 (by decide) ?_
      refine lv_goto (tgt := 19) hx hb dX2_behind_15 (by decide) ?_
      refine lv_istore_n (lv' := [(2, .int 1), (0, .int (nI (x))), (1, .int (nI (a)))]) hx hb dX2_behind_19 rfl hl9 (by decide) rfl (fun sl9 hl9 => ?_)
      refine lv_iload_n hx hb dX2_behind_20 rfl (lv_at hl9 1 rfl) ?_
      refine lv_iload_n hx hb dX2_behind_21 rfl (lv_at hl9 0 rfl) ?_
      refine lv_ishl hx hb dX2_behind_22 ?_
      refine lv_iload_n hx hb dX2_behind_23 rfl (lv_at hl9 1 rfl) ?_
      refine lv_bipush (v := 8) hx hb dX2_behind_24 (by decide) ?_
      refine lv_iload_n hx hb dX2_behind_26 rfl (lv_at hl9 0 rfl) ?_
      refine lv_isub hx hb dX2_behind_27 ?_
      refine zn_top (y := 7) (by decide) ?_
      refine lv_iushr (v := ((nI (x)).toUInt32 >>> ((7 : Int32).toUInt32 &&& Int32.toUInt32 31)).toInt32) hx hb dX2_behind_28 rfl ?_
      refine lv_ior hx hb dX2_behind_29 ?_
      refine lv_sipush (v := 255) hx hb dX2_behind_30 (by decide) ?_
      refine lv_iand hx hb dX2_behind_33 ?_
      exact hret _ sl9 _ (by rw [show a = 1 by omega]; exact (beh_ok x hx9).2.1) (rfl) dX2_behind_34
  ·
    refine lv_iload_n hx hb dX2_behind_4 rfl (lv_at hl9 0 rfl) ?_
    refine z_callSi (As := [.int (nI (x))]) (rest := []) Z (cs_folded l (nI x)) (va_cwS 1 hts gX2_behind_X2_folded rfl rfl rfl (by decide +kernel) ⟨by decide, by decide⟩) rfl hl9.1 (Nat.le_of_ble_eq_true rfl) dX2_behind_5 ⟨by decide, by decide⟩ rfl ?_
    exact hret _ sl9 _ (by rw [show a = 0 by omega]; exact (beh_ok x hx9).1) (rfl) dX2_behind_8
set_option maxHeartbeats 4000000 in
set_option maxRecDepth 100000 in
theorem cs_isInSet (l : Launch) (x y : Int32) : ZS l yX5_isInSet wsX5_isInSet (zrm 0 0) [.int (x), .int (y)] (if ush x y &&& 1 = 0 then 0 else 1) := by
  refine z_inS (cc := cX5_isInSet) (maxL := 2) (rt := .boolean) (by decide +kernel) rfl (Nat.le_of_ble_eq_true rfl) ?_
  intro p e s m args below meth c sl9 Q Z hl9 hret
  have Z : CallFix p m c cX5_isInSet 2 s args wsX5_isInSet RX5 := Z
  have hx := Z.1
  have hb := Z.2.1
  have hts := Z.2.2.2.2
  generalize hH : s.heap = Hp9 at hret ⊢
  have hl9 : lv_has sl9 2 [(0, .int (x)), (1, .int (y))] := hl9
  refine lv_iload_n hx hb dX5_isInSet_0 rfl (lv_at hl9 0 rfl) ?_
  refine lv_iload_n hx hb dX5_isInSet_1 rfl (lv_at hl9 1 rfl) ?_
  refine lv_iushr (v := (x.toUInt32 >>> (y.toUInt32 &&& Int32.toUInt32 31)).toInt32) hx hb dX5_isInSet_2 rfl ?_
  refine lv_iconst (v := 1) hx hb dX5_isInSet_3 (by decide) ?_
  refine lv_iand hx hb dX5_isInSet_4 ?_
  refine lv_if_eq (tgt := 12) hx hb dX5_isInSet_5 (by decide) (fun c_1 => ?_) (fun c_1 => ?_)
  ·
    refine lv_iconst (v := 0) hx hb dX5_isInSet_12 (by decide) ?_
    exact hret _ sl9 _ ((if_pos c_1).symm) (rfl) dX5_isInSet_13
  ·
    refine lv_iconst (v := 1) hx hb dX5_isInSet_8 (by decide) ?_
    refine lv_goto (tgt := 13) hx hb dX5_isInSet_9 (by decide) ?_
    exact hret _ sl9 _ ((if_neg c_1).symm) (rfl) dX5_isInSet_13
set_option maxHeartbeats 4000000 in
set_option maxRecDepth 100000 in
theorem cb_exploreFrom (l : Launch) (D : va_G) (T : Nat → ClassId) (pt a0 a1 a2 : Nat) (f0 f1 f2 : Nat → Int32) (q : Nat) (hq : q < 256) : ZV l yX2_exploreFrom wsX2_exploreFrom (zrm 2 46) D T (ptW pt a0 a1 a2 T f0 f1 f2) (ptW pt a0 a1 a2 T ((BF f0 f2 q).1) (OP f0 f2 f1 q) ((BF f0 f2 q).2.1)) [.ref pt, .int (nI (q))] 0 0 := by
  refine z_inV (cc := cX2_exploreFrom) (maxL := 8) (by decide +kernel) rfl (Nat.le_of_ble_eq_true rfl) ?_
  intro p e s m args below meth c sl9 A Q Z hnm Mz9 hl9 hret
  have Z : zC p s m args c cX2_exploreFrom 8 RX2 wsX2_exploreFrom D T A := Z
  have hx := Z.1.1
  have hb := Z.1.2.1
  have hts := Z.1.2.2.2.2
  have hin2 : ∀ w ∈ wsX20, w ∈ wsX2_exploreFrom := by decide +kernel
  have L9 := hts (.fieldLink RX2 9 "AnvilHouse$Patterns" "acts" "[I") (by decide +kernel)
  have L15 := hts (.fieldLink RX2 15 "AnvilHouse$Patterns" "openings" "[I") (by decide +kernel)
  have L18 := hts (.fieldLink RX2 18 "AnvilHouse$Patterns" "found" "[I") (by decide +kernel)
  have hl9 : lv_has sl9 8 [(0, .ref pt), (1, .int (nI (q)))] := hl9
  refine lv_aload_n hx hb dX2_exploreFrom_0 rfl (lv_at hl9 0 rfl) ?_
  refine z_getf Z Mz9 hin2 0 rfl rfl 0 (by decide) L9 rfl (v := .ref a0) rfl dX2_exploreFrom_1 ?_
  refine lv_iconst (v := (-1)) hx hb dX2_exploreFrom_4 (by decide) ?_
  refine z_callSv (As := [.ref a0, .int (-1)]) (rest := []) (wc := flW a0 256 T f0) (wc' := flW a0 256 T (FI0 f0 (-1))) Z Mz9 (cb_fill256 l D T a0 f0 (-1)) (va_cwS 2 hts gX2_exploreFrom_J7_fill_53178 rfl rfl rfl (by decide +kernel) ⟨by decide, by decide⟩) [1] rfl (by decide) (fun j hj => rfl) (Nat.le_refl _) rfl hl9.1 (Nat.le_of_ble_eq_true rfl) dX2_exploreFrom_5 ⟨by decide, by decide⟩ rfl (fun Hp9 lc9 Mz9 => ?_)
  have Mz9 : zM D A s.heap (ptW pt a0 a1 a2 T (FI0 f0 (-1)) f1 f2) _ _ := Mz9
  refine lv_aload_n hx hb dX2_exploreFrom_8 rfl (lv_at hl9 0 rfl) ?_
  refine z_getf Z Mz9 hin2 0 rfl rfl 1 (by decide) L15 rfl (v := .ref a1) rfl dX2_exploreFrom_9 ?_
  refine lv_iconst (v := (-1)) hx hb dX2_exploreFrom_12 (by decide) ?_
  refine z_callSv (As := [.ref a1, .int (-1)]) (rest := []) (wc := flW a1 256 T f1) (wc' := flW a1 256 T (FI0 f1 (-1))) Z Mz9 (cb_fill256 l D T a1 f1 (-1)) (va_cwS 2 hts gX2_exploreFrom_J7_fill_53178 rfl rfl rfl (by decide +kernel) ⟨by decide, by decide⟩) [2] rfl (by decide) (fun j hj => rfl) (Nat.le_refl _) rfl hl9.1 (Nat.le_of_ble_eq_true rfl) dX2_exploreFrom_13 ⟨by decide, by decide⟩ rfl (fun Hp9 lc9 Mz9 => ?_)
  have Mz9 : zM D A s.heap (ptW pt a0 a1 a2 T (FI0 f0 (-1)) (FI0 f1 (-1)) f2) _ _ := Mz9
  refine lv_iload_n hx hb dX2_exploreFrom_16 rfl (lv_at hl9 1 rfl) ?_
  refine lv_sipush (v := 255) hx hb dX2_exploreFrom_17 (by decide) ?_
  refine lv_iand hx hb dX2_exploreFrom_20 ?_
  refine zn_top (y := nI q) (and255 q hq) ?_
  refine lv_istore_n (lv' := [(2, .int (nI (q))), (0, .ref pt), (1, .int (nI (q)))]) hx hb dX2_exploreFrom_21 rfl hl9 (by decide) rfl (fun sl9 hl9 => ?_)
  refine lv_aload_n hx hb dX2_exploreFrom_22 rfl (lv_at hl9 1 rfl) ?_
  refine z_getf Z Mz9 hin2 0 rfl rfl 0 (by decide) L9 rfl (v := .ref a0) rfl dX2_exploreFrom_23 ?_
  refine lv_iload_n hx hb dX2_exploreFrom_26 rfl (lv_at hl9 0 rfl) ?_
  refine lv_iconst (v := 0) hx hb dX2_exploreFrom_27 (by decide) ?_
  refine z_iast Z Mz9 1 (h0 := a0) (n := 256) (f := FI0 f0 (-1)) rfl (j := q) (x := 0) (by omega) (by decide) (ws' := ptW pt a0 a1 a2 T (upd (FI0 f0 (-1)) q 0) (FI0 f1 (-1)) f2) rfl dX2_exploreFrom_28 (fun Hp9 lc9 Mz9 => ?_)
  refine lv_aload_n hx hb dX2_exploreFrom_29 rfl (lv_at hl9 1 rfl) ?_
  refine z_getf Z Mz9 hin2 0 rfl rfl 2 (by decide) L18 rfl (v := .ref a2) rfl dX2_exploreFrom_30 ?_
  refine lv_iconst (v := 0) hx hb dX2_exploreFrom_33 (by decide) ?_
  refine lv_iload_n hx hb dX2_exploreFrom_34 rfl (lv_at hl9 0 rfl) ?_
  refine z_iast Z Mz9 3 (h0 := a2) (n := 256) (f := f2) rfl (j := 0) (x := nI (q)) (by omega) (by decide) (ws' := ptW pt a0 a1 a2 T (upd (FI0 f0 (-1)) q 0) (FI0 f1 (-1)) (upd f2 0 (nI (q)))) rfl dX2_exploreFrom_35 (fun Hp9 lc9 Mz9 => ?_)
  obtain ⟨F1, hF1⟩ : ∃ z, z = upd (FI0 f0 (-1)) q 0 := ⟨_, rfl⟩
  obtain ⟨O1, hO1⟩ : ∃ z, z = FI0 f1 (-1) := ⟨_, rfl⟩
  have Mz9 : zM D A s.heap (ptW pt a0 a1 a2 T F1 O1 (upd f2 0 (nI (q)))) _ _ := zM_w (by rw [hF1, hO1]) Mz9
  refine lv_iconst (v := 1) hx hb dX2_exploreFrom_36 (by decide) ?_
  refine lv_istore_n (lv' := [(3, .int 1), (2, .int (nI (q))), (0, .ref pt), (1, .int (nI (q)))]) hx hb dX2_exploreFrom_37 rfl hl9 (by decide) rfl (fun sl9 hl9 => ?_)
  refine lv_iconst (v := 0) hx hb dX2_exploreFrom_38 (by decide) ?_
  refine lv_istore (lv' := [(4, .int 0), (3, .int 1), (2, .int (nI (q))), (0, .ref pt), (1, .int (nI (q)))]) hx hb dX2_exploreFrom_39 hl9 (by decide) rfl (fun sl9 hl9 => ?_)
  have LP41_1 : ∀ (n41 k : Nat) (f9 : Nat → Int32) (q9 : Nat → Int32) (m9 : Nat) (o9 : Nat → Int32), k + n41 = 257 → bW (f9, q9, m9) → (∀ nn : Nat, k + nn = 257 → bfR 257 0 (upd (fi0 f0 (-1) 256) q 0, upd f2 0 (nI q), 1) = bfR nn (k) (f9, q9, m9)) → (∀ nn : Nat, k + nn = 257 → ofR 257 0 (upd (fi0 f0 (-1) 256) q 0, upd f2 0 (nI q), 1) (fi0 f1 (-1) 256) = ofR nn (k) (f9, q9, m9) o9) → ∀ (Hp9 : Heap) (lc9 : List Loc) (sl9 : Array Slot), zM D A s.heap (ptW pt a0 a1 a2 T f9 o9 q9) Hp9 lc9 → lv_has sl9 8 [(0, .ref pt), (1, .int (nI (q))), (2, .int (nI (q))), (3, .int (nI (m9))), (4, .int (nI (k)))] → W p l e (zrm 2 46) s m args below meth c Hp9 lc9 0 0 Q (F0 m 41 sl9 []) := by
    intro n41
    induction n41 with
    | zero =>
      intro k f9 q9 m9 o9 hk9 h70 h71 h72 Hp9 lc9 sl9 Mz9 hl9
      obtain rfl : 257 = k := by omega
      refine lv_iload hx hb dX2_exploreFrom_41 (lv_at hl9 4 rfl) ?_
      refine lv_iload_n hx hb dX2_exploreFrom_43 rfl (lv_at hl9 3 rfl) ?_
      refine zn_icmp_ge (a := 257) (b := m9) (tgt := 163) (by have := bW_le h70; have h99 : m9 ≤ 256 := this; omega) (by have := bW_le h70; have h99 : m9 ≤ 256 := this; omega) hx hb dX2_exploreFrom_44 (by decide) (fun _ => ?_) (fun h => absurd h (by have := bW_le h70; have h99 : m9 ≤ 256 := this; omega))
      exact hret _ _ _ _ _ sl9 _ Mz9 (by rw [BF_eq, OP_eq, h71 0 (by omega), h72 0 (by omega)]; rfl) (Nat.le_refl _) (Nat.le_refl _) dX2_exploreFrom_163
    | succ n41 ih41 =>
      intro k f9 q9 m9 o9 hk9 h70 h71 h72 Hp9 lc9 sl9 Mz9 hl9
      refine lv_iload hx hb dX2_exploreFrom_41 (lv_at hl9 4 rfl) ?_
      refine lv_iload_n hx hb dX2_exploreFrom_43 rfl (lv_at hl9 3 rfl) ?_
      refine zn_icmp_ge (a := k) (b := m9) (tgt := 163) (by have := bW_le h70; have h99 : m9 ≤ 256 := this; omega) (by have := bW_le h70; have h99 : m9 ≤ 256 := this; omega) hx hb dX2_exploreFrom_44 (by decide) (fun c_1 => ?_) (fun c_1 => ?_)
      ·
        exact hret _ _ _ _ _ sl9 _ Mz9 (by rw [BF_eq, OP_eq, h71 (n41 + 1) (by omega), h72 (n41 + 1) (by omega), bfR, ofR, if_neg (Nat.not_lt.mpr c_1), if_neg (Nat.not_lt.mpr c_1)]) (Nat.le_refl _) (Nat.le_refl _) dX2_exploreFrom_163
      ·
        have hk8 : k < m9 := Nat.not_le.mp c_1
        have hm8 : m9 ≤ 256 := bW_le h70
        obtain ⟨x, hx8, hQk, hFk⟩ := h70.1 k hk8
        have hin : ∀ a, a ≤ 3 → bW (bfA (f9, q9, m9) x a) ∧ (bfA (f9, q9, m9) x a).2.1 k = nI x ∧ m9 ≤ (bfA (f9, q9, m9) x a).2.2 := bW_A h70 hk8 hx8 hQk
        refine lv_iload hx hb dX2_exploreFrom_47 (lv_at hl9 4 rfl) ?_
        refine lv_sipush (v := 256) hx hb dX2_exploreFrom_49 (by decide) ?_
        refine zn_icmp_ge (a := k) (b := 256) (tgt := 163) (by omega) (by decide) hx hb dX2_exploreFrom_52 (by decide) (fun h => absurd h (by omega)) (fun _ => ?_)
        refine lv_aload_n hx hb dX2_exploreFrom_55 rfl (lv_at hl9 0 rfl) ?_
        refine z_getf Z Mz9 hin2 0 rfl rfl 2 (by decide) L18 rfl (v := .ref a2) rfl dX2_exploreFrom_56 ?_
        refine lv_iload hx hb dX2_exploreFrom_59 (lv_at hl9 4 rfl) ?_
        refine z_iald Z Mz9 3 (h0 := a2) (n := 256) (f := q9) rfl (j := k) (by omega) (by decide) dX2_exploreFrom_61 ?_
        refine zn_top (y := nI (x)) (hQk) ?_
        refine lv_istore (lv' := [(5, .int (nI (x))), (0, .ref pt), (1, .int (nI (q))), (2, .int (nI (q))), (3, .int (nI (m9))), (4, .int (nI (k)))]) hx hb dX2_exploreFrom_62 hl9 (by decide) rfl (fun sl9 hl9 => ?_)
        refine lv_iconst (v := 0) hx hb dX2_exploreFrom_64 (by decide) ?_
        refine lv_istore (lv' := [(6, .int 0), (5, .int (nI (x))), (0, .ref pt), (1, .int (nI (q))), (2, .int (nI (q))), (3, .int (nI (m9))), (4, .int (nI (k)))]) hx hb dX2_exploreFrom_65 hl9 (by decide) rfl (fun sl9 hl9 => ?_)
        have LP67_1 : ∀ (n67 a : Nat), a + n67 = 3 → ∀ (Hp9 : Heap) (lc9 : List Loc) (sl9 : Array Slot), zM D A s.heap (ptW pt a0 a1 a2 T ((bfA (f9, q9, m9) x (a)).1) (ofA (f9, q9, m9) o9 x k (a)) ((bfA (f9, q9, m9) x (a)).2.1)) Hp9 lc9 → lv_has sl9 8 [(0, .ref pt), (1, .int (nI (q))), (2, .int (nI (q))), (3, .int (nI ((bfA (f9, q9, m9) x (a)).2.2))), (4, .int (nI (k))), (5, .int (nI (x))), (6, .int (nI (a)))] → W p l e (zrm 2 46) s m args below meth c Hp9 lc9 0 0 Q (F0 m 67 sl9 []) := by
          intro n67
          induction n67 with
          | zero =>
            intro a hk9 Hp9 lc9 sl9 Mz9 hl9
            obtain rfl : 3 = a := by omega
            refine lv_iload hx hb dX2_exploreFrom_67 (lv_at hl9 6 rfl) ?_
            refine lv_iconst (v := 2) hx hb dX2_exploreFrom_69 (by decide) ?_
            refine zn_icmp_gt (a := 3) (b := 2) (tgt := 157) (by omega) (by decide) hx hb dX2_exploreFrom_70 (by decide) (fun _ => ?_) (fun h => absurd h (by omega))
            refine lv_iinc (v := nI (k + 1)) (lv' := [(4, .int (nI (k + 1))), (0, .ref pt), (1, .int (nI (q))), (2, .int (nI (q))), (3, .int (nI ((bfA (f9, q9, m9) x (3)).2.2))), (5, .int (nI (x))), (6, .int (nI (3)))]) hx hb dX2_exploreFrom_157 hl9 (k := 4) rfl (nI_add (k) 1) (by decide) rfl (fun sl9 hl9 => ?_)
            refine lv_goto (tgt := 41) hx hb dX2_exploreFrom_160 (by decide) ?_
            exact ih41 (k + 1) ((bfA (f9, q9, m9) x 3).1) ((bfA (f9, q9, m9) x 3).2.1) ((bfA (f9, q9, m9) x 3).2.2) (ofA (f9, q9, m9) o9 x k 3) (by omega) ((hin 3 (Nat.le_refl 3)).1) (fun nn hnn => by rw [h71 (nn + 1) (by omega), bfR, if_pos hk8, show (q9 k).toNatClampNeg = x by rw [show q9 k = nI x from hQk, nI_clamp (by omega)]]) (fun nn hnn => by rw [h72 (nn + 1) (by omega), ofR, if_pos hk8, show (q9 k).toNatClampNeg = x by rw [show q9 k = nI x from hQk, nI_clamp (by omega)]]) _ _ _ Mz9 (lv_sub hl9 [1, 2, 3, 4, 0] rfl)
          | succ n67 ih67 =>
            intro a hk9 Hp9 lc9 sl9 Mz9 hl9
            refine lv_iload hx hb dX2_exploreFrom_67 (lv_at hl9 6 rfl) ?_
            refine lv_iconst (v := 2) hx hb dX2_exploreFrom_69 (by decide) ?_
            refine zn_icmp_gt (a := a) (b := 2) (tgt := 157) (by omega) (by decide) hx hb dX2_exploreFrom_70 (by decide) (fun h => absurd h (by omega)) (fun _ => ?_)
            obtain ⟨g0, g1, g2⟩ := hin a (by omega)
            have g3 := bW_le g0
            have g4 := (actN_ok x hx8 a (by omega)).2
            have g5 := (bW_1 g0 (k := k) (by omega) hx8 g1 (a := a) (by omega)).2.2.2
            refine lv_iload hx hb dX2_exploreFrom_73 (lv_at hl9 5 rfl) ?_
            refine lv_iload hx hb dX2_exploreFrom_75 (lv_at hl9 6 rfl) ?_
            refine z_callSi (As := [.int (nI (x)), .int (nI (a))]) (rest := []) Z.1 (cs_behind l x a hx8 (by omega)) (va_cwS 2 hts gX2_exploreFrom_X2_behind rfl rfl rfl (by decide +kernel) ⟨by decide, by decide⟩) rfl hl9.1 (Nat.le_of_ble_eq_true rfl) dX2_exploreFrom_77 ⟨by decide, by decide⟩ rfl ?_
            refine lv_istore (lv' := [(7, .int (nI (actN x a))), (0, .ref pt), (1, .int (nI (q))), (2, .int (nI (q))), (3, .int (nI ((bfA (f9, q9, m9) x (a)).2.2))), (4, .int (nI (k))), (5, .int (nI (x))), (6, .int (nI (a)))]) hx hb dX2_exploreFrom_80 hl9 (by decide) rfl (fun sl9 hl9 => ?_)
            refine lv_aload_n hx hb dX2_exploreFrom_82 rfl (lv_at hl9 1 rfl) ?_
            refine z_getf Z Mz9 hin2 0 rfl rfl 0 (by decide) L9 rfl (v := .ref a0) rfl dX2_exploreFrom_83 ?_
            refine lv_iload hx hb dX2_exploreFrom_86 (lv_at hl9 0 rfl) ?_
            refine z_iald Z Mz9 1 (h0 := a0) (n := 256) (f := (bfA (f9, q9, m9) x (a)).1) rfl (j := actN x a) (by omega) (by decide) dX2_exploreFrom_88 ?_
            refine lv_iconst (v := (-1)) hx hb dX2_exploreFrom_89 (by decide) ?_
            refine lv_icmp_ne (tgt := 151) hx hb dX2_exploreFrom_90 (by decide) (fun c_2 => ?_) (fun c_2 => ?_)
            ·
              refine lv_iinc (v := nI (a + 1)) (lv' := [(6, .int (nI (a + 1))), (7, .int (nI (actN x a))), (0, .ref pt), (1, .int (nI (q))), (2, .int (nI (q))), (3, .int (nI ((bfA (f9, q9, m9) x (a)).2.2))), (4, .int (nI (k))), (5, .int (nI (x)))]) hx hb dX2_exploreFrom_151 hl9 (k := 7) rfl (nI_add (a) 1) (by decide) rfl (fun sl9 hl9 => ?_)
              refine lv_goto (tgt := 67) hx hb dX2_exploreFrom_154 (by decide) ?_
              exact ih67 (a + 1) (by omega)  _ _ _ (zM_w (by simp only [bfA, bf1, ofA, of1, if_neg c_2]) Mz9) (lv_w (show ([(0, .ref pt), (1, .int (nI (q))), (2, .int (nI (q))), (3, .int (nI ((bfA (f9, q9, m9) x (a)).2.2))), (4, .int (nI (k))), (5, .int (nI (x))), (6, .int (nI (a + 1)))] : List (Nat × Value)) = [(0, .ref pt), (1, .int (nI (q))), (2, .int (nI (q))), (3, .int (nI ((bfA (f9, q9, m9) x (a + 1)).2.2))), (4, .int (nI (k))), (5, .int (nI (x))), (6, .int (nI (a + 1)))] from by simp only [bfA, bf1, if_neg c_2]) (lv_sub hl9 [2, 3, 4, 5, 6, 7, 0] rfl))
            ·
              have g6 := g5 c_2
              refine lv_iload_n hx hb dX2_exploreFrom_93 rfl (lv_at hl9 4 rfl) ?_
              refine lv_sipush (v := 256) hx hb dX2_exploreFrom_94 (by decide) ?_
              refine zn_icmp_ge (a := (bfA (f9, q9, m9) x (a)).2.2) (b := 256) (tgt := 151) (by omega) (by decide) hx hb dX2_exploreFrom_97 (by decide) (fun h => absurd h (by omega)) (fun _ => ?_)
              refine lv_aload_n hx hb dX2_exploreFrom_100 rfl (lv_at hl9 1 rfl) ?_
              refine z_getf Z Mz9 hin2 0 rfl rfl 0 (by decide) L9 rfl (v := .ref a0) rfl dX2_exploreFrom_101 ?_
              refine lv_iload hx hb dX2_exploreFrom_104 (lv_at hl9 0 rfl) ?_
              refine lv_aload_n hx hb dX2_exploreFrom_106 rfl (lv_at hl9 1 rfl) ?_
              refine z_getf Z Mz9 hin2 0 rfl rfl 0 (by decide) L9 rfl (v := .ref a0) rfl dX2_exploreFrom_107 ?_
              refine lv_iload hx hb dX2_exploreFrom_110 (lv_at hl9 6 rfl) ?_
              refine z_iald Z Mz9 1 (h0 := a0) (n := 256) (f := (bfA (f9, q9, m9) x (a)).1) rfl (j := x) (by omega) (by decide) dX2_exploreFrom_112 ?_
              refine lv_iconst (v := 1) hx hb dX2_exploreFrom_113 (by decide) ?_
              refine lv_iadd hx hb dX2_exploreFrom_114 ?_
              refine z_iast Z Mz9 1 (h0 := a0) (n := 256) (f := (bfA (f9, q9, m9) x (a)).1) rfl (j := actN x a) (x := (((bfA (f9, q9, m9) x (a)).1) x) + 1) (by omega) (by decide) (ws' := ptW pt a0 a1 a2 T (upd ((bfA (f9, q9, m9) x (a)).1) (actN x a) ((((bfA (f9, q9, m9) x (a)).1) x) + 1)) (ofA (f9, q9, m9) o9 x k (a)) ((bfA (f9, q9, m9) x (a)).2.1)) rfl dX2_exploreFrom_115 (fun Hp9 lc9 Mz9 => ?_)
              refine lv_aload_n hx hb dX2_exploreFrom_116 rfl (lv_at hl9 1 rfl) ?_
              refine z_getf Z Mz9 hin2 0 rfl rfl 1 (by decide) L15 rfl (v := .ref a1) rfl dX2_exploreFrom_117 ?_
              refine lv_iload hx hb dX2_exploreFrom_120 (lv_at hl9 0 rfl) ?_
              refine lv_iload hx hb dX2_exploreFrom_122 (lv_at hl9 5 rfl) ?_
              refine zn_if_ne (a := k) (tgt := 132) (by omega) hx hb dX2_exploreFrom_124 (by decide) (fun c_3 => ?_) (fun c_3 => ?_)
              ·
                refine lv_aload_n hx hb dX2_exploreFrom_132 rfl (lv_at hl9 1 rfl) ?_
                refine z_getf Z Mz9 hin2 0 rfl rfl 1 (by decide) L15 rfl (v := .ref a1) rfl dX2_exploreFrom_133 ?_
                refine lv_iload hx hb dX2_exploreFrom_136 (lv_at hl9 6 rfl) ?_
                refine z_iald Z Mz9 2 (h0 := a1) (n := 256) (f := ofA (f9, q9, m9) o9 x k (a)) rfl (j := x) (by omega) (by decide) dX2_exploreFrom_138 ?_
                refine z_iast Z Mz9 2 (h0 := a1) (n := 256) (f := ofA (f9, q9, m9) o9 x k (a)) rfl (j := actN x a) (x := (ofA (f9, q9, m9) o9 x k (a)) x) (by omega) (by decide) (ws' := ptW pt a0 a1 a2 T (upd ((bfA (f9, q9, m9) x (a)).1) (actN x a) ((((bfA (f9, q9, m9) x (a)).1) x) + 1)) (upd (ofA (f9, q9, m9) o9 x k (a)) (actN x a) ((ofA (f9, q9, m9) o9 x k (a)) x)) ((bfA (f9, q9, m9) x (a)).2.1)) rfl dX2_exploreFrom_139 (fun Hp9 lc9 Mz9 => ?_)
                refine lv_aload_n hx hb dX2_exploreFrom_140 rfl (lv_at hl9 1 rfl) ?_
                refine z_getf Z Mz9 hin2 0 rfl rfl 2 (by decide) L18 rfl (v := .ref a2) rfl dX2_exploreFrom_141 ?_
                refine lv_iload_n hx hb dX2_exploreFrom_144 rfl (lv_at hl9 4 rfl) ?_
                refine lv_iload hx hb dX2_exploreFrom_145 (lv_at hl9 0 rfl) ?_
                refine z_iast Z Mz9 3 (h0 := a2) (n := 256) (f := (bfA (f9, q9, m9) x (a)).2.1) rfl (j := (bfA (f9, q9, m9) x (a)).2.2) (x := nI (actN x a)) (by omega) (by decide) (ws' := ptW pt a0 a1 a2 T (upd ((bfA (f9, q9, m9) x (a)).1) (actN x a) ((((bfA (f9, q9, m9) x (a)).1) x) + 1)) (upd (ofA (f9, q9, m9) o9 x k (a)) (actN x a) ((ofA (f9, q9, m9) o9 x k (a)) x)) (upd ((bfA (f9, q9, m9) x (a)).2.1) ((bfA (f9, q9, m9) x (a)).2.2) (nI (actN x a)))) rfl dX2_exploreFrom_147 (fun Hp9 lc9 Mz9 => ?_)
                refine lv_iinc (v := nI (((bfA (f9, q9, m9) x (a)).2.2) + 1)) (lv' := [(3, .int (nI (((bfA (f9, q9, m9) x (a)).2.2) + 1))), (7, .int (nI (actN x a))), (0, .ref pt), (1, .int (nI (q))), (2, .int (nI (q))), (4, .int (nI (k))), (5, .int (nI (x))), (6, .int (nI (a)))]) hx hb dX2_exploreFrom_148 hl9 (k := 4) rfl (nI_add ((bfA (f9, q9, m9) x (a)).2.2) 1) (by decide) rfl (fun sl9 hl9 => ?_)
                refine lv_iinc (v := nI (a + 1)) (lv' := [(6, .int (nI (a + 1))), (3, .int (nI (((bfA (f9, q9, m9) x (a)).2.2) + 1))), (7, .int (nI (actN x a))), (0, .ref pt), (1, .int (nI (q))), (2, .int (nI (q))), (4, .int (nI (k))), (5, .int (nI (x)))]) hx hb dX2_exploreFrom_151 hl9 (k := 7) rfl (nI_add (a) 1) (by decide) rfl (fun sl9 hl9 => ?_)
                refine lv_goto (tgt := 67) hx hb dX2_exploreFrom_154 (by decide) ?_
                exact ih67 (a + 1) (by omega)  _ _ _ (zM_w (by simp only [bfA, bf1, ofA, of1, if_pos c_2, if_neg c_3]) Mz9) (lv_w (show ([(0, .ref pt), (1, .int (nI (q))), (2, .int (nI (q))), (3, .int (nI (((bfA (f9, q9, m9) x (a)).2.2) + 1))), (4, .int (nI (k))), (5, .int (nI (x))), (6, .int (nI (a + 1)))] : List (Nat × Value)) = [(0, .ref pt), (1, .int (nI (q))), (2, .int (nI (q))), (3, .int (nI ((bfA (f9, q9, m9) x (a + 1)).2.2))), (4, .int (nI (k))), (5, .int (nI (x))), (6, .int (nI (a + 1)))] from by simp only [bfA, bf1, if_pos c_2]) (lv_sub hl9 [3, 4, 5, 1, 6, 7, 0] rfl))
              ·
                refine lv_iload hx hb dX2_exploreFrom_127 (lv_at hl9 7 rfl) ?_
                refine lv_goto (tgt := 139) hx hb dX2_exploreFrom_129 (by decide) ?_
                refine z_iast Z Mz9 2 (h0 := a1) (n := 256) (f := ofA (f9, q9, m9) o9 x k (a)) rfl (j := actN x a) (x := nI (a)) (by omega) (by decide) (ws' := ptW pt a0 a1 a2 T (upd ((bfA (f9, q9, m9) x (a)).1) (actN x a) ((((bfA (f9, q9, m9) x (a)).1) x) + 1)) (upd (ofA (f9, q9, m9) o9 x k (a)) (actN x a) (nI (a))) ((bfA (f9, q9, m9) x (a)).2.1)) rfl dX2_exploreFrom_139 (fun Hp9 lc9 Mz9 => ?_)
                refine lv_aload_n hx hb dX2_exploreFrom_140 rfl (lv_at hl9 1 rfl) ?_
                refine z_getf Z Mz9 hin2 0 rfl rfl 2 (by decide) L18 rfl (v := .ref a2) rfl dX2_exploreFrom_141 ?_
                refine lv_iload_n hx hb dX2_exploreFrom_144 rfl (lv_at hl9 4 rfl) ?_
                refine lv_iload hx hb dX2_exploreFrom_145 (lv_at hl9 0 rfl) ?_
                refine z_iast Z Mz9 3 (h0 := a2) (n := 256) (f := (bfA (f9, q9, m9) x (a)).2.1) rfl (j := (bfA (f9, q9, m9) x (a)).2.2) (x := nI (actN x a)) (by omega) (by decide) (ws' := ptW pt a0 a1 a2 T (upd ((bfA (f9, q9, m9) x (a)).1) (actN x a) ((((bfA (f9, q9, m9) x (a)).1) x) + 1)) (upd (ofA (f9, q9, m9) o9 x k (a)) (actN x a) (nI (a))) (upd ((bfA (f9, q9, m9) x (a)).2.1) ((bfA (f9, q9, m9) x (a)).2.2) (nI (actN x a)))) rfl dX2_exploreFrom_147 (fun Hp9 lc9 Mz9 => ?_)
                refine lv_iinc (v := nI (((bfA (f9, q9, m9) x (a)).2.2) + 1)) (lv' := [(3, .int (nI (((bfA (f9, q9, m9) x (a)).2.2) + 1))), (7, .int (nI (actN x a))), (0, .ref pt), (1, .int (nI (q))), (2, .int (nI (q))), (4, .int (nI (k))), (5, .int (nI (x))), (6, .int (nI (a)))]) hx hb dX2_exploreFrom_148 hl9 (k := 4) rfl (nI_add ((bfA (f9, q9, m9) x (a)).2.2) 1) (by decide) rfl (fun sl9 hl9 => ?_)
                refine lv_iinc (v := nI (a + 1)) (lv' := [(6, .int (nI (a + 1))), (3, .int (nI (((bfA (f9, q9, m9) x (a)).2.2) + 1))), (7, .int (nI (actN x a))), (0, .ref pt), (1, .int (nI (q))), (2, .int (nI (q))), (4, .int (nI (k))), (5, .int (nI (x)))]) hx hb dX2_exploreFrom_151 hl9 (k := 7) rfl (nI_add (a) 1) (by decide) rfl (fun sl9 hl9 => ?_)
                refine lv_goto (tgt := 67) hx hb dX2_exploreFrom_154 (by decide) ?_
                exact ih67 (a + 1) (by omega)  _ _ _ (zM_w (by simp only [bfA, bf1, ofA, of1, if_pos c_2, if_pos c_3]) Mz9) (lv_w (show ([(0, .ref pt), (1, .int (nI (q))), (2, .int (nI (q))), (3, .int (nI (((bfA (f9, q9, m9) x (a)).2.2) + 1))), (4, .int (nI (k))), (5, .int (nI (x))), (6, .int (nI (a + 1)))] : List (Nat × Value)) = [(0, .ref pt), (1, .int (nI (q))), (2, .int (nI (q))), (3, .int (nI ((bfA (f9, q9, m9) x (a + 1)).2.2))), (4, .int (nI (k))), (5, .int (nI (x))), (6, .int (nI (a + 1)))] from by simp only [bfA, bf1, if_pos c_2]) (lv_sub hl9 [3, 4, 5, 1, 6, 7, 0] rfl))
        exact LP67_1 (3 - 0) (0) (by omega)  _ _ _ Mz9 (lv_sub hl9 [2, 3, 4, 5, 6, 1, 0] rfl)
  exact LP41_1 (257 - 0) (0) F1 (upd f2 0 (nI q)) 1 O1 (by omega) (by rw [hF1, FI0_eq]; exact bW_0 _ _ hq) (fun nn hnn => by rw [show nn = 257 by omega, hF1, FI0_eq]) (fun nn hnn => by rw [show nn = 257 by omega, hF1, hO1, FI0_eq, FI0_eq]) _ _ _ Mz9 (lv_sub hl9 [3, 4, 2, 1, 0] rfl)
