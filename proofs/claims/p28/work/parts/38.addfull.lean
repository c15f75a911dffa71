/-! ===== an element more, the list is full ===== -/
theorem gr_set {L r n q N : Nat} {T : Nat → ClassId} {k c : Int32} {f g g' : Nat → Option Nat} {es : va_W} : (grW2 L r n q N T k c f g es).set (es.length + 2) (q, .inl (T 3, N, qa g')) = grW2 L r n q N T k c f g' es := by
  show (((r, .inl (T 3, n, qa f)) :: (L, .inr (0, [.int k, .ref q, .int c])) :: es) ++ [(q, .inl (T 3, N, qa g))] : va_W).set (es.length + 2) (q, .inl (T 3, N, qa g')) = _
  rw [List.set_append_right _ _ (by simp)]
  simp
theorem gr_at {L r n q N : Nat} {T : Nat → ClassId} {k c : Int32} {f g : Nat → Option Nat} {es : va_W} : (grW2 L r n q N T k c f g es)[es.length + 2]? = some (q, .inl (T 3, N, qa g)) := by
  show (((r, .inl (T 3, n, qa f)) :: (L, .inr (0, [.int k, .ref q, .int c])) :: es) ++ [(q, .inl (T 3, N, qa g))] : va_W)[es.length + 2]? = _
  rw [List.getElem?_append_right (by simp)]
  simp
theorem gr_el {L r n q N j : Nat} {T : Nat → ClassId} {k c : Int32} {f g : Nat → Option Nat} {es : va_W} {z : Nat × va_E} (h : es[j]? = some z) : (grW2 L r n q N T k c f g es)[j + 2]? = some z := by
  have hlt := (List.getElem?_eq_some_iff.mp h).1
  show (((r, .inl (T 3, n, qa f)) :: (L, .inr (0, [.int k, .ref q, .int c])) :: es) ++ [(q, .inl (T 3, N, qa g))] : va_W)[j + 2]? = _
  rw [List.getElem?_append_left (by simp; omega)]
  exact h
set_option maxHeartbeats 4000000 in
theorem cl_add3f (l : Launch) (D : va_G) (T : Nat → ClassId) (L r n x ci mi j0 : Nat) (k : Int32) (f : Nat → Option Nat) (es : va_W) (vs : List Value) (q9 : vw_C) (hc : vwCl[ci]? = some q9) (h2 : 2 ≤ n) (hn : n ≤ 40000) (hj : es[j0]? = some (x, .inr (ci, vs))) (he : ∀ i y : Nat, i < n → f i = some y → ∃ (j : Nat) (vs : List Value), es[j]? = some (y, .inr (ci, vs))) :
    ZVP l yJx4a65c_add_72be8 wsJx4a65c_add_72be8 (zrmc 5 150 1 (n + n / 2)) (zGr q9.1 mi) D T (S := Nat) (grW L r n T k (nI n) f es) (fun q => grW2 L r n q (n + n / 2) T k (nI (n + 1)) f (va_up (va_cpy f (fun _ => none) 0 0 n) n (some x)) es) [.ref L, .ref x, .ref r, .int (nI n)] 1 (n + n / 2) := by
  refine z_inVP (cc := cJx4a65c_add_72be8) (maxL := 4) (by decide +kernel) rfl (Nat.le_of_ble_eq_true rfl) ?_
  intro p e s m args below meth c9 ls9 A Q Z hGr hnm M hl9 hret
  have Z : zC p s m args c9 cJx4a65c_add_72be8 4 RJx4a65c wsJx4a65c_add_72be8 D T A := Z
  have hx := Z.1.1
  have hb := Z.1.2.1
  have hts := Z.1.2.2.2.2
  have hinL : ∀ w ∈ wsJx4a65c0, w ∈ wsJx4a65c_add_72be8 := by decide +kernel
  have L48 := hts (.fieldLink RJx4a65c 48 "java/util/ArrayList" "size" "I") (by decide +kernel)
  have hl9 : lv_has ls9 4 [(0, .ref L), (1, .ref x), (2, .ref r), (3, .int (nI n))] := hl9
  refine lv_iload_n hx hb dJx4a65c_add_72be8_0 rfl (lv_at hl9 3 rfl) ?_
  refine lv_aload_n hx hb dJx4a65c_add_72be8_1 rfl (lv_at hl9 2 rfl) ?_
  refine va_alen (x := (n, qa f)) hx hb Z.2.1 M.1 0 3 rfl rfl (v := nI n) rfl dJx4a65c_add_72be8_2 ?_
  refine zn_icmp_ne (a := n) (b := n) (tgt := 11) (by omega) (by omega) hx hb dJx4a65c_add_72be8_3 (by decide) (fun h => absurd rfl h) (fun _ => ?_)
  refine lv_aload_n hx hb dJx4a65c_add_72be8_6 rfl (lv_at hl9 0 rfl) ?_
  refine z_callAVr (As := []) (rest := []) (zGr_k _ _) hGr Z M (cl_grow2 l D T L r n ci mi k f es q9 hc h2 hn he) (cwV 0 hts gJx4a65c_add_72be8_Jx4a65c_grow_d5877 rfl rfl rfl (by decide +kernel) ⟨Nat.le_of_ble_eq_true rfl, Nat.le_of_ble_eq_true rfl⟩) (va_recv Z.2.1 M.1 (ci := 0) (q0 := 1) rfl rfl) rfl hl9.1 (Nat.le_of_ble_eq_true rfl) dJx4a65c_add_72be8_7 ⟨Nat.le_refl 1, Nat.le_of_eq (Nat.zero_add _)⟩ rfl (fun q H1 locs1 M => ?_)
  refine lv_astore_n (lv' := [(2, .ref q), (0, .ref L), (1, .ref x), (3, .int (nI n))]) hx hb dJx4a65c_add_72be8_10 rfl hl9 (by decide) rfl (fun ls9 hl9 => ?_)
  refine lv_aload_n hx hb dJx4a65c_add_72be8_11 rfl (lv_at hl9 0 rfl) ?_
  refine lv_iload_n hx hb dJx4a65c_add_72be8_12 rfl (lv_at hl9 3 rfl) ?_
  refine lv_aload_n hx hb dJx4a65c_add_72be8_13 rfl (lv_at hl9 2 rfl) ?_
  refine va_astqO hx hb Z.2.1 M.1 M.2.1 M.2.2 (es.length + 2) 3 (j0 + 2) ci (E := "java/lang/Object") (cA := T 3) (n := n + n / 2) (f := va_cpy f (fun _ => none) 0 0 n) (vs := vs) gr_at rfl hGr.2.2.2 (gr_el hj) hc (vp_in_nI (by omega) (by omega)) dJx4a65c_add_72be8_14 (fun H2 locs2 hP2 hD2 hS2 => ?_)
  rw [nI_clamp (by omega), gr_set] at hP2 hD2
  have M : zM D A s.heap (grW2 L r n q (n + n / 2) T k (nI n) f (va_up (va_cpy f (fun _ => none) 0 0 n) n (some x)) es) H2 locs2 := ⟨hP2, hD2, hS2⟩
  refine lv_aload_n hx hb dJx4a65c_add_72be8_15 rfl (lv_at hl9 1 rfl) ?_
  refine lv_iload_n hx hb dJx4a65c_add_72be8_16 rfl (lv_at hl9 3 rfl) ?_
  refine lv_iconst (v := 1) hx hb dJx4a65c_add_72be8_17 (by decide) ?_
  refine lv_iadd hx hb dJx4a65c_add_72be8_18 ?_
  refine zn_top (y := nI (n + 1)) (nI_add n 1) ?_
  refine z_putf Z M hinL tyJx4a65c tyJx4a65c_ok nmJx4a65c 1 rfl rfl 2 (by decide) L48 rfl rfl (ty := .int) rfl rfl rfl (Nat.le_of_ble_eq_true rfl) (ws' := grW2 L r n q (n + n / 2) T k (nI (n + 1)) f (va_up (va_cpy f (fun _ => none) 0 0 n) n (some x)) es) rfl dJx4a65c_add_72be8_19 (fun H3 locs3 M => ?_)
  exact hret _ _ _ _ _ ls9 _ q M rfl (Nat.le_refl _) (Nat.le_of_eq (Nat.zero_add _)) dJx4a65c_add_72be8_22
