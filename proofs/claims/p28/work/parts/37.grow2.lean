/-! ===== a list that is full grows by half ===== -/
abbrev grW (L r n : Nat) (T : Nat → ClassId) (k c : Int32) (f : Nat → Option Nat) (es : va_W) : va_W := (r, .inl (T 3, n, qa f)) :: (L, .inr (0, [.int k, .ref r, .int c])) :: es
abbrev grW2 (L r n q N : Nat) (T : Nat → ClassId) (k c : Int32) (f g : Nat → Option Nat) (es : va_W) : va_W := ((r, .inl (T 3, n, qa f)) :: (L, .inr (0, [.int k, .ref q, .int c])) :: es) ++ [(q, .inl (T 3, N, qa g))]
theorem n_gt0 {n : Nat} (h : 0 < n) (hn : n < 2 ^ 31) : 0 < nI n := by
  rw [← nI_0]
  exact (nI_ltI (by decide) hn).mpr h
theorem n_shr {n : Nat} (hn : n < 2 ^ 31) : nI n >>> ((1 : Int32) &&& 31) = nI (n / 2) := by
  have k := pk_shrN (n := n) hn ((1 : Int32) &&& 31) 1 (by decide)
  rw [Nat.pow_one] at k
  exact k
set_option maxHeartbeats 4000000 in
theorem cl_grow (l : Launch) (D : va_G) (T : Nat → ClassId) (L r n ci mi : Nat) (k c0 : Int32) (f : Nat → Option Nat) (es : va_W) (q9 : vw_C) (hc : vwCl[ci]? = some q9) (h2 : 2 ≤ n) (hn : n ≤ 40000) (he : ∀ i y : Nat, i < n → f i = some y → ∃ (j : Nat) (vs : List Value), es[j]? = some (y, .inr (ci, vs))) :
    ZRP l yJx4a65c_grow_92f84 wsJx4a65c_grow_92f84 (zrmc 3 90 1 (n + n / 2)) (zGr q9.1 mi) D T (S := Nat) (grW L r n T k c0 f es) (fun q => grW2 L r n q (n + n / 2) T k c0 f (va_cpy f (fun _ => none) 0 0 n) es) [.ref L, .int (nI (n + 1))] (fun q => q) 1 (n + n / 2) := by
  refine z_inRP (cc := cJx4a65c_grow_92f84) (maxL := 4) (rt := .array (.object "java/lang/Object")) (by decide +kernel) rfl (Nat.le_of_ble_eq_true rfl) (Or.inr ⟨_, rfl⟩) ?_
  intro p e s m args below meth c9 ls9 A Q Z hGr hnm M hl9 hret
  have Z : zC p s m args c9 cJx4a65c_grow_92f84 4 RJx4a65c wsJx4a65c_grow_92f84 D T A := Z
  have hx := Z.1.1
  have hb := Z.1.2.1
  have hts := Z.1.2.2.2.2
  have hinL : ∀ w ∈ wsJx4a65c0, w ∈ wsJx4a65c_grow_92f84 := by decide +kernel
  have L9 := hts (.fieldLink RJx4a65c 9 "java/util/ArrayList" "elementData" "[Ljava/lang/Object;") (by decide +kernel)
  have hl9 : lv_has ls9 4 [(0, .ref L), (1, .int (nI (n + 1)))] := hl9
  refine lv_aload_n hx hb dJx4a65c_grow_92f84_0 rfl (lv_at hl9 0 rfl) ?_
  refine z_getf Z M hinL 1 rfl rfl 1 (by decide) L9 rfl (v := .ref r) rfl dJx4a65c_grow_92f84_1 ?_
  refine va_alen (x := (n, qa f)) hx hb Z.2.1 M.1 0 3 rfl rfl (v := nI n) rfl dJx4a65c_grow_92f84_4 ?_
  refine lv_istore_n (lv' := [(2, .int (nI n)), (0, .ref L), (1, .int (nI (n + 1)))]) hx hb dJx4a65c_grow_92f84_5 rfl hl9 (by decide) rfl (fun ls9 hl9 => ?_)
  refine lv_iload_n hx hb dJx4a65c_grow_92f84_6 rfl (lv_at hl9 0 rfl) ?_
  refine lv_if_gt (tgt := 20) hx hb dJx4a65c_grow_92f84_7 (by decide) (fun _ => ?_) (fun h => absurd (n_gt0 (by omega) (by omega)) h)
  refine lv_iload_n hx hb dJx4a65c_grow_92f84_20 rfl (lv_at hl9 0 rfl) ?_
  refine lv_iload_n hx hb dJx4a65c_grow_92f84_21 rfl (lv_at hl9 2 rfl) ?_
  refine lv_iload_n hx hb dJx4a65c_grow_92f84_22 rfl (lv_at hl9 0 rfl) ?_
  refine zn_isub (a := n + 1) (b := n) (by omega) hx hb dJx4a65c_grow_92f84_23 ?_
  refine zn_top (y := nI 1) (by rw [Nat.add_sub_cancel_left]) ?_
  refine lv_iload_n hx hb dJx4a65c_grow_92f84_24 rfl (lv_at hl9 0 rfl) ?_
  refine lv_iconst (v := 1) hx hb dJx4a65c_grow_92f84_25 (by decide) ?_
  refine lv_ishr hx hb dJx4a65c_grow_92f84_26 ?_
  refine zn_top (y := nI (n / 2)) (n_shr (by omega)) ?_
  refine z_callSi (As := [.int (nI n), .int (nI 1), .int (nI (n / 2))]) (rest := []) Z.1 (cs_newLength_cabcc l n h2 hn) (va_cwS 3 hts gJx4a65c_grow_92f84_J8_newLength_cabcc rfl rfl rfl (by decide +kernel) ⟨Nat.le_of_ble_eq_true rfl, Nat.le_of_ble_eq_true rfl⟩) rfl hl9.1 (Nat.le_of_ble_eq_true rfl) dJx4a65c_grow_92f84_27 ⟨Nat.zero_le _, Nat.zero_le _⟩ rfl ?_
  refine lv_istore_n (lv' := [(3, .int (nI (n + n / 2))), (2, .int (nI n)), (0, .ref L), (1, .int (nI (n + 1)))]) hx hb dJx4a65c_grow_92f84_30 rfl hl9 (by decide) rfl (fun ls9 hl9 => ?_)
  refine lv_aload_n hx hb dJx4a65c_grow_92f84_31 rfl (lv_at hl9 2 rfl) ?_
  refine lv_aload_n hx hb dJx4a65c_grow_92f84_32 rfl (lv_at hl9 2 rfl) ?_
  refine z_getf Z M hinL 1 rfl rfl 1 (by decide) L9 rfl (v := .ref r) rfl dJx4a65c_grow_92f84_33 ?_
  refine lv_iload_n hx hb dJx4a65c_grow_92f84_36 rfl (lv_at hl9 0 rfl) ?_
  refine z_callASr (As := [.ref r, .int (nI (n + n / 2))]) (rest := [.ref L]) (zGr_k _ _) hGr Z M (cl_copy2 l D T r n (n + n / 2) ci mi f ((L, .inr (0, [.int k, .ref r, .int c0])) :: es) q9 hc (by omega) (by omega) (fun i y h3 h4 => (he i y h3 h4).elim fun j h5 => ⟨j + 1, h5⟩)) (va_cwS 2 hts gJx4a65c_grow_92f84_J7_copyOf_1904c rfl rfl rfl (by decide +kernel) ⟨Nat.le_of_ble_eq_true rfl, Nat.le_of_ble_eq_true rfl⟩) rfl hl9.1 (Nat.le_of_ble_eq_true rfl) dJx4a65c_grow_92f84_37 ⟨Nat.le_refl 1, Nat.le_of_eq (Nat.zero_add _)⟩ rfl (fun q H1 locs1 M => ?_)
  refine lv_dup_x1 hx hb dJx4a65c_grow_92f84_40 rfl rfl ?_
  refine z_putf Z M hinL tyJx4a65c tyJx4a65c_ok nmJx4a65c 1 rfl rfl 1 (by decide) L9 rfl rfl (ty := .array (.object "java/lang/Object")) rfl rfl rfl (Nat.le_of_ble_eq_true rfl) (ws' := grW2 L r n q (n + n / 2) T k c0 f (va_cpy f (fun _ => none) 0 0 n) es) rfl dJx4a65c_grow_92f84_41 (fun H2 locs2 M => ?_)
  exact hret _ _ _ _ _ ls9 q _ q M rfl rfl (Nat.le_refl _) (Nat.le_of_eq (Nat.zero_add _)) dJx4a65c_grow_92f84_44
set_option maxHeartbeats 4000000 in
theorem cl_grow2 (l : Launch) (D : va_G) (T : Nat → ClassId) (L r n ci mi : Nat) (k : Int32) (f : Nat → Option Nat) (es : va_W) (q9 : vw_C) (hc : vwCl[ci]? = some q9) (h2 : 2 ≤ n) (hn : n ≤ 40000) (he : ∀ i y : Nat, i < n → f i = some y → ∃ (j : Nat) (vs : List Value), es[j]? = some (y, .inr (ci, vs))) :
    ZRP l yJx4a65c_grow_d5877 wsJx4a65c_grow_d5877 (zrmc 4 120 1 (n + n / 2)) (zGr q9.1 mi) D T (S := Nat) (grW L r n T k (nI n) f es) (fun q => grW2 L r n q (n + n / 2) T k (nI n) f (va_cpy f (fun _ => none) 0 0 n) es) [.ref L] (fun q => q) 1 (n + n / 2) := by
  refine z_inRP (cc := cJx4a65c_grow_d5877) (maxL := 1) (rt := .array (.object "java/lang/Object")) (by decide +kernel) rfl (Nat.le_of_ble_eq_true rfl) (Or.inr ⟨_, rfl⟩) ?_
  intro p e s m args below meth c9 ls9 A Q Z hGr hnm M hl9 hret
  have Z : zC p s m args c9 cJx4a65c_grow_d5877 1 RJx4a65c wsJx4a65c_grow_d5877 D T A := Z
  have hx := Z.1.1
  have hb := Z.1.2.1
  have hts := Z.1.2.2.2.2
  have hinL : ∀ w ∈ wsJx4a65c0, w ∈ wsJx4a65c_grow_d5877 := by decide +kernel
  have L48 := hts (.fieldLink RJx4a65c 48 "java/util/ArrayList" "size" "I") (by decide +kernel)
  have hl9 : lv_has ls9 1 [(0, .ref L)] := hl9
  refine lv_aload_n hx hb dJx4a65c_grow_d5877_0 rfl (lv_at hl9 0 rfl) ?_
  refine lv_aload_n hx hb dJx4a65c_grow_d5877_1 rfl (lv_at hl9 0 rfl) ?_
  refine z_getf Z M hinL 1 rfl rfl 2 (by decide) L48 rfl (v := .int (nI n)) rfl dJx4a65c_grow_d5877_2 ?_
  refine lv_iconst (v := 1) hx hb dJx4a65c_grow_d5877_5 (by decide) ?_
  refine lv_iadd hx hb dJx4a65c_grow_d5877_6 ?_
  refine zn_top (y := nI (n + 1)) (nI_add n 1) ?_
  refine z_callAVr (As := [.int (nI (n + 1))]) (rest := []) (zGr_k _ _) hGr Z M (cl_grow l D T L r n ci mi k (nI n) f es q9 hc h2 hn he) (cwV 1 hts gJx4a65c_grow_d5877_Jx4a65c_grow_92f84 rfl rfl rfl (by decide +kernel) ⟨Nat.le_of_ble_eq_true rfl, Nat.le_of_ble_eq_true rfl⟩) (va_recv Z.2.1 M.1 (ci := 0) (q0 := 1) rfl rfl) rfl hl9.1 (Nat.le_of_ble_eq_true rfl) dJx4a65c_grow_d5877_7 ⟨Nat.le_refl 1, Nat.le_of_eq (Nat.zero_add _)⟩ rfl (fun q H1 locs1 M => ?_)
  exact hret _ _ _ _ _ ls9 q _ q M rfl rfl (Nat.le_refl _) (Nat.le_of_eq (Nat.zero_add _)) dJx4a65c_grow_d5877_10
