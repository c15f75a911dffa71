/-! ===== laid by program ===== -/
set_option maxHeartbeats 4000000 in
set_option maxRecDepth 100000 in
theorem cs_checkIndex_8e157 (l : Launch) (i n : Nat) (hi : i < n) (hn : n < 2 ^ 31) : ZS l yJ3_checkIndex_8e157 wsJ3_checkIndex_8e157 (zrm 0 0) [.int (nI (i)), .int (nI (n)), .null] (nI i) := by
  refine z_inS (cc := cJ3_checkIndex_8e157) (maxL := 3) (rt := .int) (by decide +kernel) rfl (Nat.le_of_ble_eq_true rfl) ?_
  intro p e s m args below meth c sl9 Q Z hl9 hret
  have Z : CallFix p m c cJ3_checkIndex_8e157 3 s args wsJ3_checkIndex_8e157 RJ3 := Z
  have hx := Z.1
  have hb := Z.2.1
  have hts := Z.2.2.2.2
  generalize hH : s.heap = Hp9 at hret ⊢
  have hl9 : lv_has sl9 3 [(0, .int (nI (i))), (1, .int (nI (n))), (2, .null)] := hl9
  refine lv_iload_n hx hb dJ3_checkIndex_8e157_0 rfl (lv_at hl9 0 rfl) ?_
  refine zn_if_lt (a := i) (tgt := 9) (by omega) hx hb dJ3_checkIndex_8e157_1 (by decide) (fun h => absurd h (fun h => h)) (fun _ => ?_)
  refine lv_iload_n hx hb dJ3_checkIndex_8e157_4 rfl (lv_at hl9 0 rfl) ?_
  refine lv_iload_n hx hb dJ3_checkIndex_8e157_5 rfl (lv_at hl9 1 rfl) ?_
  refine zn_icmp_lt (a := i) (b := n) (tgt := 16) (by omega) (by omega) hx hb dJ3_checkIndex_8e157_6 (by decide) (fun _ => ?_) (fun h => absurd h (by omega))
  refine lv_iload_n hx hb dJ3_checkIndex_8e157_16 rfl (lv_at hl9 0 rfl) ?_
  exact hret _ sl9 _ (rfl) (rfl) dJ3_checkIndex_8e157_17
set_option maxHeartbeats 4000000 in
set_option maxRecDepth 100000 in
theorem cs__checkIndex_7cf53 (l : Launch) (i n : Nat) (hi : i < n) (hn : n < 2 ^ 31) : ZS l yJ15_checkIndex_7cf53 wsJ15_checkIndex_7cf53 (zrm 1 22) [.int (nI (i)), .int (nI (n))] (nI i) := by
  refine z_inS (cc := cJ15_checkIndex_7cf53) (maxL := 2) (rt := .int) (by decide +kernel) rfl (Nat.le_of_ble_eq_true rfl) ?_
  intro p e s m args below meth c sl9 Q Z hl9 hret
  have Z : CallFix p m c cJ15_checkIndex_7cf53 2 s args wsJ15_checkIndex_7cf53 RJ15 := Z
  have hx := Z.1
  have hb := Z.2.1
  have hts := Z.2.2.2.2
  generalize hH : s.heap = Hp9 at hret ⊢
  have hl9 : lv_has sl9 2 [(0, .int (nI (i))), (1, .int (nI (n)))] := hl9
  refine lv_iload_n hx hb dJ15_checkIndex_7cf53_0 rfl (lv_at hl9 0 rfl) ?_
  refine lv_iload_n hx hb dJ15_checkIndex_7cf53_1 rfl (lv_at hl9 1 rfl) ?_
  refine lv_null hx hb dJ15_checkIndex_7cf53_2 ?_
  refine z_callSi (As := [.int (nI (i)), .int (nI (n)), .null]) (rest := []) Z (cs_checkIndex_8e157 l i n hi hn) (va_cwS 3 hts gJ15_checkIndex_7cf53_J3_checkIndex_8e157 rfl rfl rfl (by decide +kernel) ⟨by decide, by decide⟩) rfl hl9.1 (Nat.le_of_ble_eq_true rfl) dJ15_checkIndex_7cf53_3 ⟨by decide, by decide⟩ rfl ?_
  exact hret _ sl9 _ (rfl) (rfl) dJ15_checkIndex_7cf53_6
set_option maxHeartbeats 4000000 in
theorem cl_get (l : Launch) (D : va_G) (T : Nat → ClassId) (L r n i x g : Nat) (k : Int32) (f : Nat → Option Nat) (hi : i < g) (hg : g ≤ n) (hn : n < 2 ^ 31) (hf : f i = some x) : ZR l yJx4a65c_get_915e3 wsJx4a65c_get_915e3 (zrm 2 43) D T (liW L r n T k (nI g) f) (fun _ : Unit => liW L r n T k (nI g) f) [.ref L, .int (nI i)] (fun _ => x) 0 0 := by
  refine z_inR (cc := cJx4a65c_get_915e3) (maxL := 2) (rt := .object "java/lang/Object") (by decide +kernel) rfl (Nat.le_of_ble_eq_true rfl) (Or.inl ⟨_, rfl⟩) ?_
  intro p e s m args below meth c9 ls9 A Q Z hnm Mz9 hl9 hret
  have Z : zC p s m args c9 cJx4a65c_get_915e3 2 RJx4a65c wsJx4a65c_get_915e3 D T A := Z
  have hx := Z.1.1
  have hb := Z.1.2.1
  have hts := Z.1.2.2.2.2
  have hinL : ∀ w ∈ wsJx4a65c0, w ∈ wsJx4a65c_get_915e3 := by decide +kernel
  have L48 := hts (.fieldLink RJx4a65c 48 "java/util/ArrayList" "size" "I") (by decide +kernel)
  have hl9 : lv_has ls9 2 [(0, .ref L), (1, .int (nI i))] := hl9
  refine lv_iload_n hx hb dJx4a65c_get_915e3_0 rfl (lv_at hl9 1 rfl) ?_
  refine lv_aload_n hx hb dJx4a65c_get_915e3_1 rfl (lv_at hl9 0 rfl) ?_
  refine z_getf Z Mz9 hinL 0 rfl rfl 2 (by decide) L48 rfl (v := .int (nI g)) rfl dJx4a65c_get_915e3_2 ?_
  refine z_callSi (As := [.int (nI i), .int (nI g)]) (rest := []) Z.1 (cs__checkIndex_7cf53 l i g hi (by omega)) (va_cwS 2 hts gJx4a65c_get_915e3_J15_checkIndex_7cf53 rfl rfl rfl (by decide +kernel) ⟨by decide, by decide⟩) rfl hl9.1 (Nat.le_of_ble_eq_true rfl) dJx4a65c_get_915e3_5 ⟨by decide, by decide⟩ rfl ?_
  refine lv_pop hx hb dJx4a65c_get_915e3_8 rfl ?_
  refine lv_aload_n hx hb dJx4a65c_get_915e3_9 rfl (lv_at hl9 0 rfl) ?_
  refine lv_iload_n hx hb dJx4a65c_get_915e3_10 rfl (lv_at hl9 1 rfl) ?_
  refine z_callVr (As := [.int (nI i)]) (rest := []) (wc := liW L r n T k (nI g) f) Z Mz9 (cl_elem l D T L r n i x k (nI g) f (by omega) hn hf) (cwV 1 hts gJx4a65c_get_915e3_Jx4a65c_elementData_915e3 rfl rfl rfl (by decide +kernel) ⟨by decide, by decide⟩) [0, 1] rfl (by decide) (fun _ j hj => rfl) (fun _ => Nat.le_refl _) (va_recv Z.2.1 Mz9.1 (ci := 0) (q0 := 0) rfl rfl) rfl hl9.1 (Nat.le_of_ble_eq_true rfl) dJx4a65c_get_915e3_11 ⟨by decide, by decide⟩ rfl (fun _ H1 locs1 Mz9 => ?_)
  exact hret _ _ _ _ _ ls9 x _ () Mz9 rfl rfl (Nat.le_refl _) (Nat.le_refl _) dJx4a65c_get_915e3_14
