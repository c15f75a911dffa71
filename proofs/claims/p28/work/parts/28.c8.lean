/-! ===== laid by program ===== -/
set_option maxHeartbeats 4000000 in
set_option maxRecDepth 100000 in
theorem cb_initX4 (l : Launch) (D : va_G) (T : Nat → ClassId) (h : Nat)  : ZG l yX4_init wsX4_init (zrmc 1 20 0 0) D T (S := Unit) [(h, .inr (5, [.int 0, .int 0, .int 0]))] (fun _ => [(h, .inr (5, [.int 3, .int 60, .int 4]))]) [.ref h] 0 0 := by
  refine z_inG (cc := cX4_init) (maxL := 1) (by decide +kernel) rfl (Nat.le_of_ble_eq_true rfl) ?_
  intro p e s m args below meth c sl9 A Q Z hnm Mz9 hl9 hret
  have Z : zC p s m args c cX4_init 1 RX4 wsX4_init D T A := Z
  have hnm : meth.name = "<init>" := hnm
  have hx := Z.1.1
  have hb := Z.1.2.1
  have hts := Z.1.2.2.2.2
  have hin4 : ∀ w ∈ wsX40, w ∈ wsX4_init := by decide +kernel
  have L7 := hts (.fieldLink RX4 7 "AnvilHouse$Steel" "mostHeats" "I") (by decide +kernel)
  have L13 := hts (.fieldLink RX4 13 "AnvilHouse$Steel" "hard" "I") (by decide +kernel)
  have L16 := hts (.fieldLink RX4 16 "AnvilHouse$Steel" "drop" "I") (by decide +kernel)
  have hl9 : lv_has sl9 1 [(0, .ref h)] := hl9
  refine lv_aload_n hx hb dX4_init_0 rfl (lv_at hl9 0 rfl) ?_
  refine z_obj Z hl9.1 (hts (.methodLink RX4 1 objectInit) (by decide +kernel)) (hts (.instanceMethod objectInit) (by decide +kernel)) (hts (.code objectInit ⟨#[0xb1]⟩ 1 none) (by decide +kernel)) dX4_init_1 (by decide) (by decide) ?_
  refine lv_aload_n hx hb dX4_init_4 rfl (lv_at hl9 0 rfl) ?_
  refine lv_iconst (v := 3) hx hb dX4_init_5 (by decide) ?_
  refine z_putf Z Mz9 hin4 tyX4 tyX4_ok nmX4 0 rfl rfl 0 (by decide) L7 rfl rfl (ty := tyX4 0) rfl rfl rfl (Nat.le_of_ble_eq_true rfl) (ws' := [(h, .inr (5, [.int 3, .int 0, .int 0]))]) rfl dX4_init_6 (fun Hp9 lc9 Mz9 => ?_)
  refine lv_aload_n hx hb dX4_init_9 rfl (lv_at hl9 0 rfl) ?_
  refine lv_bipush (v := 60) hx hb dX4_init_10 (by decide) ?_
  refine z_putf Z Mz9 hin4 tyX4 tyX4_ok nmX4 0 rfl rfl 1 (by decide) L13 rfl rfl (ty := tyX4 1) rfl rfl rfl (Nat.le_of_ble_eq_true rfl) (ws' := [(h, .inr (5, [.int 3, .int 60, .int 0]))]) rfl dX4_init_12 (fun Hp9 lc9 Mz9 => ?_)
  refine lv_aload_n hx hb dX4_init_15 rfl (lv_at hl9 0 rfl) ?_
  refine lv_iconst (v := 4) hx hb dX4_init_16 (by decide) ?_
  refine z_putf Z Mz9 hin4 tyX4 tyX4_ok nmX4 0 rfl rfl 2 (by decide) L16 rfl rfl (ty := tyX4 2) rfl rfl rfl (Nat.le_of_ble_eq_true rfl) (ws' := [(h, .inr (5, [.int 3, .int 60, .int 4]))]) rfl dX4_init_17 (fun Hp9 lc9 Mz9 => ?_)
  exact hret _ _ _ _ _ sl9 _ () Mz9 (rfl) (by decide) (by decide) dX4_init_20
set_option maxHeartbeats 4000000 in
set_option maxRecDepth 100000 in
theorem cb_initX3 (l : Launch) (D : va_G) (T : Nat → ClassId) (h : Nat)  : ZG l yX3_init wsX3_init (zrmc 1 20 1 12) D T (S := Nat) [(h, .inr (4, [.null, .int 0, .int 0]))] (fun b => [(h, .inr (4, [.ref b, .int 0, .int 200])), (b, .inl (T 0, 12, .inl fun _ => 0))]) [.ref h] 1 12 := by
  refine z_inG (cc := cX3_init) (maxL := 1) (by decide +kernel) rfl (Nat.le_of_ble_eq_true rfl) ?_
  intro p e s m args below meth c sl9 A Q Z hnm Mz9 hl9 hret
  have Z : zC p s m args c cX3_init 1 RX3 wsX3_init D T A := Z
  have hnm : meth.name = "<init>" := hnm
  have hx := Z.1.1
  have hb := Z.1.2.1
  have hts := Z.1.2.2.2.2
  have hin3 : ∀ w ∈ wsX30, w ∈ wsX3_init := by decide +kernel
  have L9 := hts (.fieldLink RX3 9 "AnvilHouse$Plan" "warmths" "[I") (by decide +kernel)
  have L15 := hts (.fieldLink RX3 15 "AnvilHouse$Plan" "furnace" "I") (by decide +kernel)
  have hl9 : lv_has sl9 1 [(0, .ref h)] := hl9
  refine lv_aload_n hx hb dX3_init_0 rfl (lv_at hl9 0 rfl) ?_
  refine z_obj Z hl9.1 (hts (.methodLink RX3 3 objectInit) (by decide +kernel)) (hts (.instanceMethod objectInit) (by decide +kernel)) (hts (.code objectInit ⟨#[0xb1]⟩ 1 none) (by decide +kernel)) dX3_init_1 (by decide) (by decide) ?_
  refine lv_aload_n hx hb dX3_init_4 rfl (lv_at hl9 0 rfl) ?_
  refine lv_bipush (v := 12) hx hb dX3_init_5 (by decide) ?_
  refine z_newi Z Mz9 (k := 12) (N := 12) (hts (.arrayClass .int) (by decide +kernel)) (by decide) (by decide) (by decide) (by decide) (by decide) dX3_init_7 (fun b0 Hp9 Mz9 => ?_)
  have Mz9 : zM D A s.heap ([(h, .inr (4, [.null, .int 0, .int 0])), (b0, .inl (T 0, 12, .inl (fun _ => 0)))]) Hp9 _ := Mz9
  refine z_putF Z Mz9 hnm hin3 tyX3 tyX3_ok nmX3 0 rfl rfl 0 (by decide) L9 rfl rfl (ty := tyX3 0) rfl rfl rfl (Nat.le_of_ble_eq_true rfl) (ws' := [(h, .inr (4, [.ref b0, .int 0, .int 0])), (b0, .inl (T 0, 12, .inl (fun _ => 0)))]) rfl dX3_init_9 (fun Hp9 lc9 Mz9 => ?_)
  refine lv_aload_n hx hb dX3_init_12 rfl (lv_at hl9 0 rfl) ?_
  refine lv_sipush (v := 200) hx hb dX3_init_13 (by decide) ?_
  refine z_putf Z Mz9 hin3 tyX3 tyX3_ok nmX3 0 rfl rfl 2 (by decide) L15 rfl rfl (ty := tyX3 2) rfl rfl rfl (Nat.le_of_ble_eq_true rfl) (ws' := [(h, .inr (4, [.ref b0, .int 0, .int 200])), (b0, .inl (T 0, 12, .inl (fun _ => 0)))]) rfl dX3_init_16 (fun Hp9 lc9 Mz9 => ?_)
  exact hret _ _ _ _ _ sl9 _ b0 Mz9 (rfl) (by decide) (by decide) dX3_init_19
set_option maxHeartbeats 4000000 in
set_option maxRecDepth 100000 in
theorem cb_initX2 (l : Launch) (D : va_G) (T : Nat → ClassId) (h : Nat)  : ZG l yX2_init wsX2_init (zrmc 1 20 3 768) D T (S := Nat × Nat × Nat) [(h, .inr (3, [.null, .null, .null]))] (fun b => ptW h b.1 b.2.1 b.2.2 T (fun _ => 0) (fun _ => 0) (fun _ => 0)) [.ref h] 3 768 := by
  refine z_inG (cc := cX2_init) (maxL := 1) (by decide +kernel) rfl (Nat.le_of_ble_eq_true rfl) ?_
  intro p e s m args below meth c sl9 A Q Z hnm Mz9 hl9 hret
  have Z : zC p s m args c cX2_init 1 RX2 wsX2_init D T A := Z
  have hnm : meth.name = "<init>" := hnm
  have hx := Z.1.1
  have hb := Z.1.2.1
  have hts := Z.1.2.2.2.2
  have hin2 : ∀ w ∈ wsX20, w ∈ wsX2_init := by decide +kernel
  have L9 := hts (.fieldLink RX2 9 "AnvilHouse$Patterns" "acts" "[I") (by decide +kernel)
  have L15 := hts (.fieldLink RX2 15 "AnvilHouse$Patterns" "openings" "[I") (by decide +kernel)
  have L18 := hts (.fieldLink RX2 18 "AnvilHouse$Patterns" "found" "[I") (by decide +kernel)
  have hl9 : lv_has sl9 1 [(0, .ref h)] := hl9
  refine lv_aload_n hx hb dX2_init_0 rfl (lv_at hl9 0 rfl) ?_
  refine z_obj Z hl9.1 (hts (.methodLink RX2 3 objectInit) (by decide +kernel)) (hts (.instanceMethod objectInit) (by decide +kernel)) (hts (.code objectInit ⟨#[0xb1]⟩ 1 none) (by decide +kernel)) dX2_init_1 (by decide) (by decide) ?_
  refine lv_aload_n hx hb dX2_init_4 rfl (lv_at hl9 0 rfl) ?_
  refine lv_sipush (v := 256) hx hb dX2_init_5 (by decide) ?_
  refine z_newi Z Mz9 (k := 256) (N := 256) (hts (.arrayClass .int) (by decide +kernel)) (by decide) (by decide) (by decide) (by decide) (by decide) dX2_init_8 (fun b0 Hp9 Mz9 => ?_)
  have Mz9 : zM D A s.heap ([(h, .inr (3, [.null, .null, .null])), (b0, .inl (T 0, 256, .inl (fun _ => 0)))]) Hp9 _ := Mz9
  refine z_putF Z Mz9 hnm hin2 tyX2 tyX2_ok nmX2 0 rfl rfl 0 (by decide) L9 rfl rfl (ty := tyX2 0) rfl rfl rfl (Nat.le_of_ble_eq_true rfl) (ws' := [(h, .inr (3, [.ref b0, .null, .null])), (b0, .inl (T 0, 256, .inl (fun _ => 0)))]) rfl dX2_init_10 (fun Hp9 lc9 Mz9 => ?_)
  refine lv_aload_n hx hb dX2_init_13 rfl (lv_at hl9 0 rfl) ?_
  refine lv_sipush (v := 256) hx hb dX2_init_14 (by decide) ?_
  refine z_newi Z Mz9 (k := 256) (N := 256) (hts (.arrayClass .int) (by decide +kernel)) (by decide) (by decide) (by decide) (by decide) (by decide) dX2_init_17 (fun b1 Hp9 Mz9 => ?_)
  have Mz9 : zM D A s.heap ([(h, .inr (3, [.ref b0, .null, .null])), (b0, .inl (T 0, 256, .inl (fun _ => 0))), (b1, .inl (T 0, 256, .inl (fun _ => 0)))]) Hp9 _ := Mz9
  refine z_putF Z Mz9 hnm hin2 tyX2 tyX2_ok nmX2 0 rfl rfl 1 (by decide) L15 rfl rfl (ty := tyX2 1) rfl rfl rfl (Nat.le_of_ble_eq_true rfl) (ws' := [(h, .inr (3, [.ref b0, .ref b1, .null])), (b0, .inl (T 0, 256, .inl (fun _ => 0))), (b1, .inl (T 0, 256, .inl (fun _ => 0)))]) rfl dX2_init_19 (fun Hp9 lc9 Mz9 => ?_)
  refine lv_aload_n hx hb dX2_init_22 rfl (lv_at hl9 0 rfl) ?_
  refine lv_sipush (v := 256) hx hb dX2_init_23 (by decide) ?_
  refine z_newi Z Mz9 (k := 256) (N := 256) (hts (.arrayClass .int) (by decide +kernel)) (by decide) (by decide) (by decide) (by decide) (by decide) dX2_init_26 (fun b2 Hp9 Mz9 => ?_)
  have Mz9 : zM D A s.heap ([(h, .inr (3, [.ref b0, .ref b1, .null])), (b0, .inl (T 0, 256, .inl (fun _ => 0))), (b1, .inl (T 0, 256, .inl (fun _ => 0))), (b2, .inl (T 0, 256, .inl (fun _ => 0)))]) Hp9 _ := Mz9
  refine z_putF Z Mz9 hnm hin2 tyX2 tyX2_ok nmX2 0 rfl rfl 2 (by decide) L18 rfl rfl (ty := tyX2 2) rfl rfl rfl (Nat.le_of_ble_eq_true rfl) (ws' := [(h, .inr (3, [.ref b0, .ref b1, .ref b2])), (b0, .inl (T 0, 256, .inl (fun _ => 0))), (b1, .inl (T 0, 256, .inl (fun _ => 0))), (b2, .inl (T 0, 256, .inl (fun _ => 0)))]) rfl dX2_init_28 (fun Hp9 lc9 Mz9 => ?_)
  exact hret _ _ _ _ _ sl9 _ (b0, b1, b2) Mz9 (rfl) (by decide) (by decide) dX2_init_31
set_option maxHeartbeats 4000000 in
set_option maxRecDepth 100000 in
theorem cb_initX1 (l : Launch) (D : va_G) (T : Nat → ClassId) (h : Nat)  : ZG l yX1_init wsX1_init (zrmc 1 23 1 8) D T (S := Nat) [(h, .inr (2, [.null, .int 0]))] (fun b => [(h, .inr (2, [.ref b, .int 100])), (b, .inl (T 0, 8, .inl (fi0 (fun _ => 0) 10 8)))]) [.ref h] 1 8 := by
  refine z_inG (cc := cX1_init) (maxL := 1) (by decide +kernel) rfl (Nat.le_of_ble_eq_true rfl) ?_
  intro p e s m args below meth c sl9 A Q Z hnm Mz9 hl9 hret
  have Z : zC p s m args c cX1_init 1 RX1 wsX1_init D T A := Z
  have hnm : meth.name = "<init>" := hnm
  have hx := Z.1.1
  have hb := Z.1.2.1
  have hts := Z.1.2.2.2.2
  have hin1 : ∀ w ∈ wsX10, w ∈ wsX1_init := by decide +kernel
  have L9 := hts (.fieldLink RX1 9 "AnvilHouse$Die" "areas" "[I") (by decide +kernel)
  have L15 := hts (.fieldLink RX1 15 "AnvilHouse$Die" "life" "I") (by decide +kernel)
  have hl9 : lv_has sl9 1 [(0, .ref h)] := hl9
  refine lv_aload_n hx hb dX1_init_0 rfl (lv_at hl9 0 rfl) ?_
  refine z_obj Z hl9.1 (hts (.methodLink RX1 3 objectInit) (by decide +kernel)) (hts (.instanceMethod objectInit) (by decide +kernel)) (hts (.code objectInit ⟨#[0xb1]⟩ 1 none) (by decide +kernel)) dX1_init_1 (by decide) (by decide) ?_
  refine lv_aload_n hx hb dX1_init_4 rfl (lv_at hl9 0 rfl) ?_
  refine lv_bipush (v := 8) hx hb dX1_init_5 (by decide) ?_
  refine z_newi Z Mz9 (k := 8) (N := 8) (hts (.arrayClass .int) (by decide +kernel)) (by decide) (by decide) (by decide) (by decide) (by decide) dX1_init_7 (fun b0 Hp9 Mz9 => ?_)
  have Mz9 : zM D A s.heap ([(h, .inr (2, [.null, .int 0])), (b0, .inl (T 0, 8, .inl (fun _ => 0)))]) Hp9 _ := Mz9
  refine z_putF Z Mz9 hnm hin1 tyX1 tyX1_ok nmX1 0 rfl rfl 0 (by decide) L9 rfl rfl (ty := tyX1 0) rfl rfl rfl (Nat.le_of_ble_eq_true rfl) (ws' := [(h, .inr (2, [.ref b0, .int 0])), (b0, .inl (T 0, 8, .inl (fun _ => 0)))]) rfl dX1_init_9 (fun Hp9 lc9 Mz9 => ?_)
  refine lv_aload_n hx hb dX1_init_12 rfl (lv_at hl9 0 rfl) ?_
  refine lv_bipush (v := 100) hx hb dX1_init_13 (by decide) ?_
  refine z_putf Z Mz9 hin1 tyX1 tyX1_ok nmX1 0 rfl rfl 1 (by decide) L15 rfl rfl (ty := tyX1 1) rfl rfl rfl (Nat.le_of_ble_eq_true rfl) (ws' := [(h, .inr (2, [.ref b0, .int 100])), (b0, .inl (T 0, 8, .inl (fun _ => 0)))]) rfl dX1_init_15 (fun Hp9 lc9 Mz9 => ?_)
  refine lv_aload_n hx hb dX1_init_18 rfl (lv_at hl9 0 rfl) ?_
  refine z_getf Z Mz9 hin1 0 rfl rfl 0 (by decide) L9 rfl (v := .ref b0) rfl dX1_init_19 ?_
  refine lv_bipush (v := 10) hx hb dX1_init_22 (by decide) ?_
  refine z_callSv (As := [.ref b0, .int 10]) (rest := []) (wc := flW b0 8 T (fun _ => 0)) (wc' := flW b0 8 T (fi0 (fun _ => 0) 10 8)) Z Mz9 (cb_fill8 l D T b0 (fun _ => 0) 10) (va_cwS 2 hts gX1_init_J7_fill_53178 rfl rfl rfl (by decide +kernel) ⟨by decide, by decide⟩) [1] rfl (by decide) (fun j hj => rfl) (Nat.le_refl _) rfl hl9.1 (Nat.le_of_ble_eq_true rfl) dX1_init_24 ⟨by decide, by decide⟩ rfl (fun Hp9 lc9 Mz9 => ?_)
  have Mz9 : zM D A s.heap ([(h, .inr (2, [.ref b0, .int 100])), (b0, .inl (T 0, 8, .inl (fi0 (fun _ => 0) 10 8)))]) _ _ := Mz9
  exact hret _ _ _ _ _ sl9 _ b0 Mz9 (rfl) (by decide) (by decide) dX1_init_27
set_option maxHeartbeats 4000000 in
set_option maxRecDepth 100000 in
theorem cb_initX0 (l : Launch) (D : va_G) (T : Nat → ClassId) (h : Nat) (u : Nat) (x v : Int32) : ZG l yX0_init wsX0_init (zrmc 1 23 2 16) D T (S := Nat × Nat) [(h, .inr (1, [.int 0, .null, .null, .int 0, .int 0, .int 0, .int 0, .int 0, .int 0, .int 0, .int 0, .int 0, .int 0, .int 0, .int 0, .null, .int 0, .int 0]))] (fun b => [(h, .inr (1, [.int x, .ref u, .ref b.1, .int (v * 8), .int 0, .int 0, .int 0, .int 20, .int 20, .int 0, .int 50, .int 0, .int 0, .int 240, .int (-1), .ref b.2, .int 100, .int 1])), (b.1, .inl (T 0, 8, .inl (fi0 (fun _ => 0) v 8))), (b.2, .inl (T 0, 8, .inl fun _ => 0))]) [.ref h, .int (x), .ref u, .int (v)] 2 16 := by
  refine z_inG (cc := cX0_init) (maxL := 4) (by decide +kernel) rfl (Nat.le_of_ble_eq_true rfl) ?_
  intro p e s m args below meth c sl9 A Q Z hnm Mz9 hl9 hret
  have Z : zC p s m args c cX0_init 4 RX0 wsX0_init D T A := Z
  have hnm : meth.name = "<init>" := hnm
  have hx := Z.1.1
  have hb := Z.1.2.1
  have hts := Z.1.2.2.2.2
  have hin0 : ∀ w ∈ wsX00, w ∈ wsX0_init := by decide +kernel
  have L9 := hts (.fieldLink RX0 9 "AnvilHouse$Billet" "areas" "[I") (by decide +kernel)
  have L15 := hts (.fieldLink RX0 15 "AnvilHouse$Billet" "skin" "I") (by decide +kernel)
  have L19 := hts (.fieldLink RX0 19 "AnvilHouse$Billet" "core" "I") (by decide +kernel)
  have L22 := hts (.fieldLink RX0 22 "AnvilHouse$Billet" "grain" "I") (by decide +kernel)
  have L25 := hts (.fieldLink RX0 25 "AnvilHouse$Billet" "layers" "I") (by decide +kernel)
  have L28 := hts (.fieldLink RX0 28 "AnvilHouse$Billet" "load" "I") (by decide +kernel)
  have L31 := hts (.fieldLink RX0 31 "AnvilHouse$Billet" "quenched" "[I") (by decide +kernel)
  have L34 := hts (.fieldLink RX0 34 "AnvilHouse$Billet" "tempered" "I") (by decide +kernel)
  have L37 := hts (.fieldLink RX0 37 "AnvilHouse$Billet" "part" "Z") (by decide +kernel)
  have L41 := hts (.fieldLink RX0 41 "AnvilHouse$Billet" "melt" "I") (by decide +kernel)
  have L44 := hts (.fieldLink RX0 44 "AnvilHouse$Billet" "steel" "LAnvilHouse$Steel;") (by decide +kernel)
  have L54 := hts (.fieldLink RX0 54 "AnvilHouse$Billet" "firstVolume" "I") (by decide +kernel)
  have hl9 : lv_has sl9 4 [(0, .ref h), (1, .int (x)), (2, .ref u), (3, .int (v))] := hl9
  refine lv_aload_n hx hb dX0_init_0 rfl (lv_at hl9 0 rfl) ?_
  refine z_obj Z hl9.1 (hts (.methodLink RX0 3 objectInit) (by decide +kernel)) (hts (.instanceMethod objectInit) (by decide +kernel)) (hts (.code objectInit ⟨#[0xb1]⟩ 1 none) (by decide +kernel)) dX0_init_1 (by decide) (by decide) ?_
  refine lv_aload_n hx hb dX0_init_4 rfl (lv_at hl9 0 rfl) ?_
  refine lv_bipush (v := 8) hx hb dX0_init_5 (by decide) ?_
  refine z_newi Z Mz9 (k := 8) (N := 8) (hts (.arrayClass .int) (by decide +kernel)) (by decide) (by decide) (by decide) (by decide) (by decide) dX0_init_7 (fun b0 Hp9 Mz9 => ?_)
  have Mz9 : zM D A s.heap ([(h, .inr (1, [.int 0, .null, .null, .int 0, .int 0, .int 0, .int 0, .int 0, .int 0, .int 0, .int 0, .int 0, .int 0, .int 0, .int 0, .null, .int 0, .int 0])), (b0, .inl (T 0, 8, .inl (fun _ => 0)))]) Hp9 _ := Mz9
  refine z_putF Z Mz9 hnm hin0 tyX0 tyX0_ok nmX0 0 rfl rfl 2 (by decide) L9 rfl rfl (ty := tyX0 2) rfl rfl rfl (Nat.le_of_ble_eq_true rfl) (ws' := [(h, .inr (1, [.int 0, .null, .ref b0, .int 0, .int 0, .int 0, .int 0, .int 0, .int 0, .int 0, .int 0, .int 0, .int 0, .int 0, .int 0, .null, .int 0, .int 0])), (b0, .inl (T 0, 8, .inl (fun _ => 0)))]) rfl dX0_init_9 (fun Hp9 lc9 Mz9 => ?_)
  refine lv_aload_n hx hb dX0_init_12 rfl (lv_at hl9 0 rfl) ?_
  refine lv_bipush (v := 20) hx hb dX0_init_13 (by decide) ?_
  refine z_putf Z Mz9 hin0 tyX0 tyX0_ok nmX0 0 rfl rfl 7 (by decide) L15 rfl rfl (ty := tyX0 7) rfl rfl rfl (Nat.le_of_ble_eq_true rfl) (ws' := [(h, .inr (1, [.int 0, .null, .ref b0, .int 0, .int 0, .int 0, .int 0, .int 20, .int 0, .int 0, .int 0, .int 0, .int 0, .int 0, .int 0, .null, .int 0, .int 0])), (b0, .inl (T 0, 8, .inl (fun _ => 0)))]) rfl dX0_init_15 (fun Hp9 lc9 Mz9 => ?_)
  refine lv_aload_n hx hb dX0_init_18 rfl (lv_at hl9 0 rfl) ?_
  refine lv_bipush (v := 20) hx hb dX0_init_19 (by decide) ?_
  refine z_putf Z Mz9 hin0 tyX0 tyX0_ok nmX0 0 rfl rfl 8 (by decide) L19 rfl rfl (ty := tyX0 8) rfl rfl rfl (Nat.le_of_ble_eq_true rfl) (ws' := [(h, .inr (1, [.int 0, .null, .ref b0, .int 0, .int 0, .int 0, .int 0, .int 20, .int 20, .int 0, .int 0, .int 0, .int 0, .int 0, .int 0, .null, .int 0, .int 0])), (b0, .inl (T 0, 8, .inl (fun _ => 0)))]) rfl dX0_init_21 (fun Hp9 lc9 Mz9 => ?_)
  refine lv_aload_n hx hb dX0_init_24 rfl (lv_at hl9 0 rfl) ?_
  refine lv_bipush (v := 50) hx hb dX0_init_25 (by decide) ?_
  refine z_putf Z Mz9 hin0 tyX0 tyX0_ok nmX0 0 rfl rfl 10 (by decide) L22 rfl rfl (ty := tyX0 10) rfl rfl rfl (Nat.le_of_ble_eq_true rfl) (ws' := [(h, .inr (1, [.int 0, .null, .ref b0, .int 0, .int 0, .int 0, .int 0, .int 20, .int 20, .int 0, .int 50, .int 0, .int 0, .int 0, .int 0, .null, .int 0, .int 0])), (b0, .inl (T 0, 8, .inl (fun _ => 0)))]) rfl dX0_init_27 (fun Hp9 lc9 Mz9 => ?_)
  refine lv_aload_n hx hb dX0_init_30 rfl (lv_at hl9 0 rfl) ?_
  refine lv_sipush (v := 240) hx hb dX0_init_31 (by decide) ?_
  refine z_putf Z Mz9 hin0 tyX0 tyX0_ok nmX0 0 rfl rfl 13 (by decide) L25 rfl rfl (ty := tyX0 13) rfl rfl rfl (Nat.le_of_ble_eq_true rfl) (ws' := [(h, .inr (1, [.int 0, .null, .ref b0, .int 0, .int 0, .int 0, .int 0, .int 20, .int 20, .int 0, .int 50, .int 0, .int 0, .int 240, .int 0, .null, .int 0, .int 0])), (b0, .inl (T 0, 8, .inl (fun _ => 0)))]) rfl dX0_init_34 (fun Hp9 lc9 Mz9 => ?_)
  refine lv_aload_n hx hb dX0_init_37 rfl (lv_at hl9 0 rfl) ?_
  refine lv_iconst (v := (-1)) hx hb dX0_init_38 (by decide) ?_
  refine z_putf Z Mz9 hin0 tyX0 tyX0_ok nmX0 0 rfl rfl 14 (by decide) L28 rfl rfl (ty := tyX0 14) rfl rfl rfl (Nat.le_of_ble_eq_true rfl) (ws' := [(h, .inr (1, [.int 0, .null, .ref b0, .int 0, .int 0, .int 0, .int 0, .int 20, .int 20, .int 0, .int 50, .int 0, .int 0, .int 240, .int (-1), .null, .int 0, .int 0])), (b0, .inl (T 0, 8, .inl (fun _ => 0)))]) rfl dX0_init_39 (fun Hp9 lc9 Mz9 => ?_)
  refine lv_aload_n hx hb dX0_init_42 rfl (lv_at hl9 0 rfl) ?_
  refine lv_bipush (v := 8) hx hb dX0_init_43 (by decide) ?_
  refine z_newi Z Mz9 (k := 8) (N := 8) (hts (.arrayClass .int) (by decide +kernel)) (by decide) (by decide) (by decide) (by decide) (by decide) dX0_init_45 (fun b1 Hp9 Mz9 => ?_)
  have Mz9 : zM D A s.heap ([(h, .inr (1, [.int 0, .null, .ref b0, .int 0, .int 0, .int 0, .int 0, .int 20, .int 20, .int 0, .int 50, .int 0, .int 0, .int 240, .int (-1), .null, .int 0, .int 0])), (b0, .inl (T 0, 8, .inl (fun _ => 0))), (b1, .inl (T 0, 8, .inl (fun _ => 0)))]) Hp9 _ := Mz9
  refine z_putF Z Mz9 hnm hin0 tyX0 tyX0_ok nmX0 0 rfl rfl 15 (by decide) L31 rfl rfl (ty := tyX0 15) rfl rfl rfl (Nat.le_of_ble_eq_true rfl) (ws' := [(h, .inr (1, [.int 0, .null, .ref b0, .int 0, .int 0, .int 0, .int 0, .int 20, .int 20, .int 0, .int 50, .int 0, .int 0, .int 240, .int (-1), .ref b1, .int 0, .int 0])), (b0, .inl (T 0, 8, .inl (fun _ => 0))), (b1, .inl (T 0, 8, .inl (fun _ => 0)))]) rfl dX0_init_47 (fun Hp9 lc9 Mz9 => ?_)
  refine lv_aload_n hx hb dX0_init_50 rfl (lv_at hl9 0 rfl) ?_
  refine lv_bipush (v := 100) hx hb dX0_init_51 (by decide) ?_
  refine z_putf Z Mz9 hin0 tyX0 tyX0_ok nmX0 0 rfl rfl 16 (by decide) L34 rfl rfl (ty := tyX0 16) rfl rfl rfl (Nat.le_of_ble_eq_true rfl) (ws' := [(h, .inr (1, [.int 0, .null, .ref b0, .int 0, .int 0, .int 0, .int 0, .int 20, .int 20, .int 0, .int 50, .int 0, .int 0, .int 240, .int (-1), .ref b1, .int 100, .int 0])), (b0, .inl (T 0, 8, .inl (fun _ => 0))), (b1, .inl (T 0, 8, .inl (fun _ => 0)))]) rfl dX0_init_53 (fun Hp9 lc9 Mz9 => ?_)
  refine lv_aload_n hx hb dX0_init_56 rfl (lv_at hl9 0 rfl) ?_
  refine lv_iconst (v := 1) hx hb dX0_init_57 (by decide) ?_
  refine z_putf Z Mz9 hin0 tyX0 tyX0_ok nmX0 0 rfl rfl 17 (by decide) L37 rfl rfl (ty := tyX0 17) rfl rfl rfl (Nat.le_of_ble_eq_true rfl) (ws' := [(h, .inr (1, [.int 0, .null, .ref b0, .int 0, .int 0, .int 0, .int 0, .int 20, .int 20, .int 0, .int 50, .int 0, .int 0, .int 240, .int (-1), .ref b1, .int 100, .int 1])), (b0, .inl (T 0, 8, .inl (fun _ => 0))), (b1, .inl (T 0, 8, .inl (fun _ => 0)))]) rfl dX0_init_58 (fun Hp9 lc9 Mz9 => ?_)
  refine lv_aload_n hx hb dX0_init_61 rfl (lv_at hl9 0 rfl) ?_
  refine lv_iload_n hx hb dX0_init_62 rfl (lv_at hl9 1 rfl) ?_
  refine z_putF Z Mz9 hnm hin0 tyX0 tyX0_ok nmX0 0 rfl rfl 0 (by decide) L41 rfl rfl (ty := tyX0 0) rfl rfl rfl (Nat.le_of_ble_eq_true rfl) (ws' := [(h, .inr (1, [.int (x), .null, .ref b0, .int 0, .int 0, .int 0, .int 0, .int 20, .int 20, .int 0, .int 50, .int 0, .int 0, .int 240, .int (-1), .ref b1, .int 100, .int 1])), (b0, .inl (T 0, 8, .inl (fun _ => 0))), (b1, .inl (T 0, 8, .inl (fun _ => 0)))]) rfl dX0_init_63 (fun Hp9 lc9 Mz9 => ?_)
  refine lv_aload_n hx hb dX0_init_66 rfl (lv_at hl9 0 rfl) ?_
  refine lv_aload_n hx hb dX0_init_67 rfl (lv_at hl9 2 rfl) ?_
  refine z_putF Z Mz9 hnm hin0 tyX0 tyX0_ok nmX0 0 rfl rfl 1 (by decide) L44 rfl rfl (ty := tyX0 1) rfl rfl rfl (Nat.le_of_ble_eq_true rfl) (ws' := [(h, .inr (1, [.int (x), .ref u, .ref b0, .int 0, .int 0, .int 0, .int 0, .int 20, .int 20, .int 0, .int 50, .int 0, .int 0, .int 240, .int (-1), .ref b1, .int 100, .int 1])), (b0, .inl (T 0, 8, .inl (fun _ => 0))), (b1, .inl (T 0, 8, .inl (fun _ => 0)))]) rfl dX0_init_68 (fun Hp9 lc9 Mz9 => ?_)
  refine lv_aload_n hx hb dX0_init_71 rfl (lv_at hl9 0 rfl) ?_
  refine z_getf Z Mz9 hin0 0 rfl rfl 2 (by decide) L9 rfl (v := .ref b0) rfl dX0_init_72 ?_
  refine lv_iload_n hx hb dX0_init_75 rfl (lv_at hl9 3 rfl) ?_
  refine z_callSv (As := [.ref b0, .int (v)]) (rest := []) (wc := flW b0 8 T (fun _ => 0)) (wc' := flW b0 8 T (fi0 (fun _ => 0) v 8)) Z Mz9 (cb_fill8 l D T b0 (fun _ => 0) v) (va_cwS 2 hts gX0_init_J7_fill_53178 rfl rfl rfl (by decide +kernel) ⟨by decide, by decide⟩) [1] rfl (by decide) (fun j hj => rfl) (Nat.le_refl _) rfl hl9.1 (Nat.le_of_ble_eq_true rfl) dX0_init_76 ⟨by decide, by decide⟩ rfl (fun Hp9 lc9 Mz9 => ?_)
  have Mz9 : zM D A s.heap ([(h, .inr (1, [.int (x), .ref u, .ref b0, .int 0, .int 0, .int 0, .int 0, .int 20, .int 20, .int 0, .int 50, .int 0, .int 0, .int 240, .int (-1), .ref b1, .int 100, .int 1])), (b0, .inl (T 0, 8, .inl (fi0 (fun _ => 0) v 8))), (b1, .inl (T 0, 8, .inl (fun _ => 0)))]) _ _ := Mz9
  refine lv_aload_n hx hb dX0_init_79 rfl (lv_at hl9 0 rfl) ?_
  refine lv_iload_n hx hb dX0_init_80 rfl (lv_at hl9 3 rfl) ?_
  refine lv_bipush (v := 8) hx hb dX0_init_81 (by decide) ?_
  refine lv_imul hx hb dX0_init_83 ?_
  refine z_putF Z Mz9 hnm hin0 tyX0 tyX0_ok nmX0 0 rfl rfl 3 (by decide) L54 rfl rfl (ty := tyX0 3) rfl rfl rfl (Nat.le_of_ble_eq_true rfl) (ws' := [(h, .inr (1, [.int (x), .ref u, .ref b0, .int (v * 8), .int 0, .int 0, .int 0, .int 20, .int 20, .int 0, .int 50, .int 0, .int 0, .int 240, .int (-1), .ref b1, .int 100, .int 1])), (b0, .inl (T 0, 8, .inl (fi0 (fun _ => 0) v 8))), (b1, .inl (T 0, 8, .inl (fun _ => 0)))]) rfl dX0_init_84 (fun Hp9 lc9 Mz9 => ?_)
  exact hret _ _ _ _ _ sl9 _ (b0, b1) Mz9 (rfl) (by decide) (by decide) dX0_init_87
