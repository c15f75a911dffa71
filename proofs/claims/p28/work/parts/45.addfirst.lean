/-! ===== the first element of a list ===== -/
abbrev feW (L x ci : Nat) (k : Int32) (ea : Nat) (vs : List Value) : va_W := [(L, .inr (0, [.int k, .ref ea, .int 0])), (x, .inr (ci, vs))]
abbrev feW2 (L x ci q N : Nat) (T : Nat → ClassId) (k c : Int32) (f : Nat → Option Nat) (vs : List Value) : va_W := [(L, .inr (0, [.int k, .ref q, .int c])), (x, .inr (ci, vs)), (q, .inl (T 3, N, qa f))]
set_option maxHeartbeats 4000000 in
theorem cl_add3e (l : Launch) (D : va_G) (T : Nat → ClassId) (L x ea ci : Nat) (k : Int32) (vs : List Value) (q9 : vw_C) (hc : vwCl[ci]? = some q9) :
    ZGH l yJx4a65c_add_72be8 wsJx4a65c_add_72be8 (zrmc 3 100 1 10) (zF q9.1 ea) D T (S := Nat) (feW L x ci k ea vs) (fun q => feW2 L x ci q 10 T k 1 (va_up (fun _ => none) 0 (some x)) vs) [.ref L, .ref x, .ref ea, .int 0] 1 10 := by
  refine z_inGH (cc := cJx4a65c_add_72be8) (maxL := 4) (by decide +kernel) rfl (Nat.le_of_ble_eq_true rfl) ?_
  intro p e s m args below meth c9 ls9 A Q Z hE hnm M hl9 hret
  have Z : zC p s m args c9 cJx4a65c_add_72be8 4 RJx4a65c wsJx4a65c_add_72be8 D T A := Z
  have hx := Z.1.1
  have hb := Z.1.2.1
  have hts := Z.1.2.2.2.2
  have hinL : ∀ w ∈ wsJx4a65c0, w ∈ wsJx4a65c_add_72be8 := by decide +kernel
  have L48 := hts (.fieldLink RJx4a65c 48 "java/util/ArrayList" "size" "I") (by decide +kernel)
  have hl9 : lv_has ls9 4 [(0, .ref L), (1, .ref x), (2, .ref ea), (3, .int 0)] := hl9
  refine lv_iload_n hx hb dJx4a65c_add_72be8_0 rfl (lv_at hl9 3 rfl) ?_
  refine lv_aload_n hx hb dJx4a65c_add_72be8_1 rfl (lv_at hl9 2 rfl) ?_
  refine va_tlen hx hb hE.1.2 M.2.2 (v := 0) rfl dJx4a65c_add_72be8_2 ?_
  refine lv_icmp_ne (tgt := 11) hx hb dJx4a65c_add_72be8_3 (by decide) (fun h => absurd rfl h) (fun _ => ?_)
  refine lv_aload_n hx hb dJx4a65c_add_72be8_6 rfl (lv_at hl9 0 rfl) ?_
  refine z_callVrH (As := []) (rest := []) (wc := leW L (.ref ea) k 0) (zF_k q9.1 ea) hE Z M (cl_growe2 l D T L ea k q9.1) (cwV 0 hts gJx4a65c_add_72be8_Jx4a65c_grow_d5877 rfl rfl rfl (by decide +kernel) ⟨by decide, by decide⟩) [0] rfl (by decide) le2_f (fun _ => Nat.le_of_ble_eq_true rfl) (va_recv Z.2.1 M.1 (ci := 0) (q0 := 0) rfl rfl) rfl hl9.1 (Nat.le_of_ble_eq_true rfl) dJx4a65c_add_72be8_7 ⟨by decide, by decide⟩ rfl (fun q H1 locs1 M => ?_)
  have M : zM D A s.heap (feW2 L x ci q 10 T k 0 (fun _ => none) vs) H1 locs1 := M
  refine lv_astore_n (lv' := [(2, .ref q), (0, .ref L), (1, .ref x), (3, .int 0)]) hx hb dJx4a65c_add_72be8_10 rfl hl9 (by decide) rfl (fun ls9 hl9 => ?_)
  refine lv_aload_n hx hb dJx4a65c_add_72be8_11 rfl (lv_at hl9 0 rfl) ?_
  refine lv_iload_n hx hb dJx4a65c_add_72be8_12 rfl (lv_at hl9 3 rfl) ?_
  refine lv_aload_n hx hb dJx4a65c_add_72be8_13 rfl (lv_at hl9 2 rfl) ?_
  refine va_astqO hx hb Z.2.1 M.1 M.2.1 M.2.2 2 3 1 ci (E := "java/lang/Object") (cA := T 3) (n := 10) (f := fun _ => none) (vs := vs) rfl rfl hE.2.2 rfl hc (i := 0) (by unfold vp_in; decide) dJx4a65c_add_72be8_14 (fun H2 locs2 hP2 hD2 hS2 => ?_)
  have M : zM D A s.heap (feW2 L x ci q 10 T k 0 (va_up (fun _ => none) 0 (some x)) vs) H2 locs2 := ⟨hP2, hD2, hS2⟩
  refine lv_aload_n hx hb dJx4a65c_add_72be8_15 rfl (lv_at hl9 1 rfl) ?_
  refine lv_iload_n hx hb dJx4a65c_add_72be8_16 rfl (lv_at hl9 3 rfl) ?_
  refine lv_iconst (v := 1) hx hb dJx4a65c_add_72be8_17 (by decide) ?_
  refine lv_iadd hx hb dJx4a65c_add_72be8_18 ?_
  refine zn_top (y := 1) (by decide) ?_
  refine z_putf Z M hinL tyJx4a65c tyJx4a65c_ok nmJx4a65c 0 rfl rfl 2 (by decide) L48 rfl rfl (ty := .int) rfl rfl rfl (Nat.le_of_ble_eq_true rfl) (ws' := feW2 L x ci q 10 T k 1 (va_up (fun _ => none) 0 (some x)) vs) rfl dJx4a65c_add_72be8_19 (fun H3 locs3 M => ?_)
  exact hret _ _ _ _ _ ls9 _ q M rfl (by decide) (by decide) dJx4a65c_add_72be8_22
