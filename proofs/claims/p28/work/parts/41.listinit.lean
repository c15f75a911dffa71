/-! ===== the constructor of a list ===== -/
set_option maxHeartbeats 4000000 in
theorem cl_init0 (l : Launch) (D : va_G) (T : Nat → ClassId) (L : Nat) (x : Value) (k c0 : Int32) : ZG l yJxa1e45_init_da8c8 wsJxa1e45_init_da8c8 (zrm 1 12) D T (leW L x k c0) (fun _ : Unit => leW L x k c0) [.ref L] 0 0 := by
  refine z_inG (cc := cJxa1e45_init_da8c8) (maxL := 1) (by decide +kernel) rfl (Nat.le_of_ble_eq_true rfl) ?_
  intro p e s m args below meth c9 ls9 A Q Z hnm M hl9 hret
  have Z : zC p s m args c9 cJxa1e45_init_da8c8 1 RJxa1e45 wsJxa1e45_init_da8c8 D T A := Z
  have hx := Z.1.1
  have hb := Z.1.2.1
  have hts := Z.1.2.2.2.2
  have hl9 : lv_has ls9 1 [(0, .ref L)] := hl9
  refine lv_aload_n hx hb dJxa1e45_init_da8c8_0 rfl (lv_at hl9 0 rfl) ?_
  refine z_obj Z hl9.1 (hts (.methodLink RJxa1e45 1 objectInit) (by decide +kernel)) (hts (.instanceMethod objectInit) (by decide +kernel)) (hts (.code objectInit ⟨#[0xb1]⟩ 1 none) (by decide +kernel)) dJxa1e45_init_da8c8_1 (by decide) (by decide) ?_
  exact hret _ _ _ _ _ ls9 _ () M rfl (Nat.le_refl _) (Nat.le_refl _) dJxa1e45_init_da8c8_4
set_option maxHeartbeats 4000000 in
theorem cl_init1 (l : Launch) (D : va_G) (T : Nat → ClassId) (L : Nat) (x : Value) (k c0 : Int32) : ZG l yJxc12de_init_da8c8 wsJxc12de_init_da8c8 (zrm 2 32) D T (leW L x k c0) (fun _ : Unit => leW L x 0 c0) [.ref L] 0 0 := by
  refine z_inG (cc := cJxc12de_init_da8c8) (maxL := 1) (by decide +kernel) rfl (Nat.le_of_ble_eq_true rfl) ?_
  intro p e s m args below meth c9 ls9 A Q Z hnm M hl9 hret
  have Z : zC p s m args c9 cJxc12de_init_da8c8 1 RJxc12de wsJxc12de_init_da8c8 D T A := Z
  have hx := Z.1.1
  have hb := Z.1.2.1
  have hts := Z.1.2.2.2.2
  have hinL : ∀ w ∈ wsJx4a65c0, w ∈ wsJxc12de_init_da8c8 := by decide +kernel
  have L7 := hts (.fieldLink RJxc12de 7 "java/util/AbstractList" "modCount" "I") (by decide +kernel)
  have hl9 : lv_has ls9 1 [(0, .ref L)] := hl9
  refine lv_aload_n hx hb dJxc12de_init_da8c8_0 rfl (lv_at hl9 0 rfl) ?_
  refine z_callGi (As := []) (rest := []) (wc := leW L x k c0) Z M (cl_init0 l D T L x k c0) ⟨callB_of 0 hts gJxc12de_init_da8c8_Jxa1e45_init_da8c8 rfl rfl rfl (hts (.initialized RJxa1e45) (by decide +kernel)) (hts (.methodLink RJxc12de 1 yJxa1e45_init_da8c8) (by decide +kernel)) (by decide +kernel) ⟨by decide, by decide⟩, rfl, hts (.instanceMethod yJxa1e45_init_da8c8) (by decide +kernel)⟩ [0] rfl (by decide) (fun _ j hj => rfl) (fun _ => Nat.le_refl _) rfl hl9.1 (Nat.le_of_ble_eq_true rfl) dJxc12de_init_da8c8_1 ⟨by decide, by decide⟩ rfl (fun _ H1 locs1 M => ?_)
  refine lv_aload_n hx hb dJxc12de_init_da8c8_4 rfl (lv_at hl9 0 rfl) ?_
  refine lv_iconst (v := 0) hx hb dJxc12de_init_da8c8_5 (by decide) ?_
  refine z_putf Z M hinL tyJx4a65c tyJx4a65c_ok nmJx4a65c 0 rfl rfl 0 (by decide) L7 rfl rfl (ty := .int) rfl rfl rfl (Nat.le_of_ble_eq_true rfl) (ws' := leW L x 0 c0) rfl dJxc12de_init_da8c8_6 (fun H2 locs2 M => ?_)
  exact hret _ _ _ _ _ ls9 _ () M rfl (Nat.le_refl _) (Nat.le_refl _) dJxc12de_init_da8c8_9
set_option maxHeartbeats 4000000 in
theorem cl_init (l : Launch) (D : va_G) (T : Nat → ClassId) (L ea : Nat) (x : Value) (k c0 : Int32) : ZGH l yJx4a65c_init_da8c8 wsJx4a65c_init_da8c8 (zrm 3 52) (zE ea) D T (leW L x k c0) (fun _ : Unit => leW L (.ref ea) 0 c0) [.ref L] 0 0 := by
  refine z_inGH (cc := cJx4a65c_init_da8c8) (maxL := 1) (by decide +kernel) rfl (Nat.le_of_ble_eq_true rfl) ?_
  intro p e s m args below meth c9 ls9 A Q Z hE hnm M hl9 hret
  have Z : zC p s m args c9 cJx4a65c_init_da8c8 1 RJx4a65c wsJx4a65c_init_da8c8 D T A := Z
  have hx := Z.1.1
  have hb := Z.1.2.1
  have hts := Z.1.2.2.2.2
  have hinL : ∀ w ∈ wsJx4a65c0, w ∈ wsJx4a65c_init_da8c8 := by decide +kernel
  have L9 := hts (.fieldLink RJx4a65c 9 "java/util/ArrayList" "elementData" "[Ljava/lang/Object;") (by decide +kernel)
  have L39 := hts (.fieldLink RJx4a65c 39 "java/util/ArrayList" "DEFAULTCAPACITY_EMPTY_ELEMENTDATA" "[Ljava/lang/Object;") (by decide +kernel)
  have hl9 : lv_has ls9 1 [(0, .ref L)] := hl9
  refine lv_aload_n hx hb dJx4a65c_init_da8c8_0 rfl (lv_at hl9 0 rfl) ?_
  refine z_callGi (As := []) (rest := []) (wc := leW L x k c0) Z M (cl_init1 l D T L x k c0) ⟨callB_of 0 hts gJx4a65c_init_da8c8_Jxc12de_init_da8c8 rfl rfl rfl (hts (.initialized RJxc12de) (by decide +kernel)) (hts (.methodLink RJx4a65c 1 yJxc12de_init_da8c8) (by decide +kernel)) (by decide +kernel) ⟨by decide, by decide⟩, rfl, hts (.instanceMethod yJxc12de_init_da8c8) (by decide +kernel)⟩ [0] rfl (by decide) (fun _ j hj => rfl) (fun _ => Nat.le_refl _) rfl hl9.1 (Nat.le_of_ble_eq_true rfl) dJx4a65c_init_da8c8_1 ⟨by decide, by decide⟩ rfl (fun _ H1 locs1 M => ?_)
  refine lv_aload_n hx hb dJx4a65c_init_da8c8_4 rfl (lv_at hl9 0 rfl) ?_
  refine va_gets hx hb (own := RJx4a65c) (ref := "java/util/ArrayList") hE M.2.2 Z.1.2.2.2.1 L39 (fun _ h9 => h9) dJx4a65c_init_da8c8_5 ?_
  refine z_putf Z M hinL tyJx4a65c tyJx4a65c_ok nmJx4a65c 0 rfl rfl 1 (by decide) L9 rfl rfl (ty := .array (.object "java/lang/Object")) rfl rfl rfl (Nat.le_of_ble_eq_true rfl) (ws' := leW L (.ref ea) 0 c0) rfl dJx4a65c_init_da8c8_8 (fun H2 locs2 M => ?_)
  exact hret _ _ _ _ _ ls9 _ () M rfl (Nat.le_refl _) (Nat.le_refl _) dJx4a65c_init_da8c8_11
