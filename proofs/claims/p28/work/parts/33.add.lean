/-! ===== lists: an element more, room is there ===== -/
set_option maxHeartbeats 4000000 in
theorem cl_add (l : Launch) (D : va_G) (T : Nat → ClassId) (L r n x ci g : Nat) (k : Int32) (f : Nat → Option Nat) (vs : List Value) (q9 : vw_C) (hc : vwCl[ci]? = some q9) (hg : g < n) (hn : n < 2 ^ 31) : ZIP l yJx4a65c_add_9ea2d wsJx4a65c_add_9ea2d (zrm 1 23) (zCa q9.1) D T (laW L r n x ci T k (nI g) f vs) (fun _ : Unit => laW L r n x ci T (k + 1) (nI (g + 1)) (va_up f g (some x)) vs) [.ref L, .ref x] 1 0 0 := by
  refine z_inIP (cc := cJx4a65c_add_9ea2d) (maxL := 2) (rt := .boolean) (by decide +kernel) rfl (Nat.le_of_ble_eq_true rfl) ?_
  intro p e s m args below meth c9 ls9 A Q Z hCa hnm M hl9 hret
  have Z : zC p s m args c9 cJx4a65c_add_9ea2d 2 RJx4a65c wsJx4a65c_add_9ea2d D T A := Z
  have hx := Z.1.1
  have hb := Z.1.2.1
  have hts := Z.1.2.2.2.2
  have hinL : ∀ w ∈ wsJx4a65c0, w ∈ wsJx4a65c_add_9ea2d := by decide +kernel
  have L9 := hts (.fieldLink RJx4a65c 9 "java/util/ArrayList" "elementData" "[Ljava/lang/Object;") (by decide +kernel)
  have L48 := hts (.fieldLink RJx4a65c 48 "java/util/ArrayList" "size" "I") (by decide +kernel)
  have L63 := hts (.fieldLink RJx4a65c 63 "java/util/ArrayList" "modCount" "I") (by decide +kernel)
  have S63 := hts (.sameField "java/util/ArrayList" "java/util/AbstractList" "modCount" "I") (by decide +kernel)
  have hl9 : lv_has ls9 2 [(0, .ref L), (1, .ref x)] := hl9
  refine lv_aload_n hx hb dJx4a65c_add_9ea2d_0 rfl (lv_at hl9 0 rfl) ?_
  refine lv_dup hx hb dJx4a65c_add_9ea2d_1 rfl ?_
  refine va_get Z.1.1 Z.1.2.1 Z.1.2.2.2.2 hinL Z.1.2.2.2.1 Z.2.1 M.1 0 rfl rfl 0 (by decide) L63 (fun y9 h9 => u_same S63 y9 h9) (v := .int k) rfl dJx4a65c_add_9ea2d_2 ?_
  refine lv_iconst (v := 1) hx hb dJx4a65c_add_9ea2d_5 (by decide) ?_
  refine lv_iadd hx hb dJx4a65c_add_9ea2d_6 ?_
  refine va_put Z.1.1 Z.1.2.1 Z.1.2.2.2.2 hinL tyJx4a65c tyJx4a65c_ok nmJx4a65c Z.1.2.2.2.1 Z.2.1 M.1 M.2.1 M.2.2 0 rfl rfl 0 (by decide) L63 (fun y9 h9 => u_same S63 y9 h9) rfl (ty := .int) (by decide +kernel) rfl rfl (Nat.le_of_ble_eq_true rfl) dJx4a65c_add_9ea2d_7 (fun H1 locs1 hP1 hD1 hS1 => ?_)
  have M : zM D A s.heap (laW L r n x ci T (k + 1) (nI g) f vs) H1 locs1 := ⟨hP1, hD1, hS1⟩
  refine lv_aload_n hx hb dJx4a65c_add_9ea2d_10 rfl (lv_at hl9 0 rfl) ?_
  refine lv_aload_n hx hb dJx4a65c_add_9ea2d_11 rfl (lv_at hl9 1 rfl) ?_
  refine lv_aload_n hx hb dJx4a65c_add_9ea2d_12 rfl (lv_at hl9 0 rfl) ?_
  refine z_getf Z M hinL 0 rfl rfl 1 (by decide) L9 rfl (v := .ref r) rfl dJx4a65c_add_9ea2d_13 ?_
  refine lv_aload_n hx hb dJx4a65c_add_9ea2d_16 rfl (lv_at hl9 0 rfl) ?_
  refine z_getf Z M hinL 0 rfl rfl 2 (by decide) L48 rfl (v := .int (nI g)) rfl dJx4a65c_add_9ea2d_17 ?_
  refine z_callVvP (As := [.ref x, .ref r, .int (nI g)]) (rest := []) (wc := laW L r n x ci T (k + 1) (nI g) f vs) (zCa_k _) hCa Z M (cl_add3 l D T L r n x ci g (k + 1) f vs q9 hc hg hn) (cwV 3 hts gJx4a65c_add_9ea2d_Jx4a65c_add_72be8 rfl rfl rfl (by decide +kernel) ⟨by decide, by decide⟩) [0, 1, 2] rfl (by decide) (fun _ j hj => rfl) (fun _ => Nat.le_refl _) (va_recv Z.2.1 M.1 (ci := 0) (q0 := 0) rfl rfl) rfl hl9.1 (Nat.le_of_ble_eq_true rfl) dJx4a65c_add_9ea2d_20 ⟨by decide, by decide⟩ rfl (fun _ H2 locs2 M => ?_)
  refine lv_iconst (v := 1) hx hb dJx4a65c_add_9ea2d_23 (by decide) ?_
  exact hret _ _ _ _ _ ls9 _ _ () M rfl rfl rfl (Nat.le_refl _) (Nat.le_refl _) dJx4a65c_add_9ea2d_24
