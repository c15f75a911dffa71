/-! ===== laid by program ===== -/
theorem mx1 {n : Nat} (h : 2 ≤ n) (hn : n ≤ 40000) : (if nI 1 < nI (n / 2) then nI (n / 2) else nI 1) = nI (n / 2) := by
  by_cases q : 1 < n / 2
  · rw [if_pos ((nI_ltI (by omega) (by omega)).mpr q)]
  · rw [if_neg (fun z => q ((nI_ltI (by omega) (by omega)).mp z)), show n / 2 = 1 by omega]
set_option maxHeartbeats 4000000 in
set_option maxRecDepth 100000 in
theorem cs_newLength_cabcc (l : Launch) (n : Nat) (h2 : 2 ≤ n) (hn : n ≤ 40000) : ZS l yJ8_newLength_cabcc wsJ8_newLength_cabcc (zrm 1 21) [.int (nI (n)), .int (nI (1)), .int (nI (n / 2))] (nI (n + n / 2)) := by
  refine z_inS (cc := cJ8_newLength_cabcc) (maxL := 4) (rt := .int) (by decide +kernel) rfl (Nat.le_of_ble_eq_true rfl) ?_
  intro p e s m args below meth c sl9 Q Z hl9 hret
  have Z : CallFix p m c cJ8_newLength_cabcc 4 s args wsJ8_newLength_cabcc RJ8 := Z
  have hx := Z.1
  have hb := Z.2.1
  have hts := Z.2.2.2.2
  generalize hH : s.heap = Hp9 at hret ⊢
  have hl9 : lv_has sl9 4 [(0, .int (nI (n))), (1, .int (nI (1))), (2, .int (nI (n / 2)))] := hl9
  refine lv_iload_n hx hb dJ8_newLength_cabcc_0 rfl (lv_at hl9 0 rfl) ?_
  refine lv_iload_n hx hb dJ8_newLength_cabcc_1 rfl (lv_at hl9 1 rfl) ?_
  refine lv_iload_n hx hb dJ8_newLength_cabcc_2 rfl (lv_at hl9 2 rfl) ?_
  refine va_mmax hx hb (Z.2.2.1.trans hl9.1.symm) Z.2.2.2.1 (hts (.methodLink RJ8 194 Lib.Math.max.name) (by decide +kernel)) (hts (.static Lib.Math.max.name) (by decide +kernel)) (hts (.initialized "java/lang/Math") (by decide +kernel)) (hts (.code Lib.Math.max.name Lib.Math.max.code 2 (some .int)) (by decide +kernel)) (Nat.le_of_ble_eq_true rfl) (Nat.le_of_ble_eq_true rfl) (Nat.zero_le _) (Nat.zero_le _) dJ8_newLength_cabcc_3 ?_
  refine zn_top (y := nI (n / 2)) (mx1 h2 hn) ?_
  refine zn_top (y := nI (n / 2)) (rfl) ?_
  refine zn_iadd (a := n) (b := n / 2) hx hb dJ8_newLength_cabcc_6 ?_
  refine lv_istore_n (lv' := [(3, .int (nI (n + (n / 2)))), (0, .int (nI (n))), (1, .int (nI (1))), (2, .int (nI (n / 2)))]) hx hb dJ8_newLength_cabcc_7 rfl hl9 (by decide) rfl (fun sl9 hl9 => ?_)
  refine lv_iconst (v := 0) hx hb dJ8_newLength_cabcc_8 (by decide) ?_
  refine lv_iload_n hx hb dJ8_newLength_cabcc_9 rfl (lv_at hl9 0 rfl) ?_
  refine zn_icmp_ge (a := 0) (b := n + (n / 2)) (tgt := 21) (by omega) (by omega) hx hb dJ8_newLength_cabcc_10 (by decide) (fun h => absurd h (by omega)) (fun _ => ?_)
  refine lv_iload_n hx hb dJ8_newLength_cabcc_13 rfl (lv_at hl9 0 rfl) ?_
  refine lv_ldc hx hb Z.2.2.2.1 (hts (.constant RJ8 200 2147483639) (by decide +kernel)) dJ8_newLength_cabcc_14 ?_
  refine zn_icmp_gt (a := n + (n / 2)) (b := 2147483639) (tgt := 21) (by omega) (by decide) hx hb dJ8_newLength_cabcc_16 (by decide) (fun h => absurd h (by omega)) (fun _ => ?_)
  refine lv_iload_n hx hb dJ8_newLength_cabcc_19 rfl (lv_at hl9 0 rfl) ?_
  exact hret _ sl9 _ (rfl) (rfl) dJ8_newLength_cabcc_20
