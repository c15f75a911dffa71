/-! ===== laid by program ===== -/
/-! ===== the law, case by case ===== -/
section LAWC
variable {p : Program} {l : Launch} {e : Env} {R : Room} {s : State} {m : MethodId} {args : Array Value} {below : List Frame} {meth : Method} {c : Code} {Hp9 : Heap} {lc9 : List Loc} {cells slots : Nat} {Q : State → Prop}
variable {D : va_G} {T : Nat → ClassId} {A : Nat → Prop} {sl9 : Array Slot} {ea mi : Nat} {sa : Nat → Nat} {b L o om out i9 : Nat} {am : Nat → Nat} {xs : Nat → Int32} {f f' : Nat → Int64} {S1 S2 : Type} {Wc : va_W} {Wc' : S1 → va_W} {k rv : Int32} {σ : Nat → Nat → Int32} {σ' : S2 → Nat → Nat → Int32} {rm : Room} {mc ms : Nat}
set_option maxHeartbeats 4000000 in
set_option maxRecDepth 100000 in
theorem lc_press (Z : zC p s m args c cL_law 7 RL lw_tbl D T A) (hR : 11 ≤ R.frames ∧ 404 ≤ R.locals) (hXX : zX ea mi sa A s s.heap) (hX9 : va_X b L xs s s.heap) (hbl : b < s.heap.size) (hbA : ¬ A b) (hL2 : L < 2 ^ 31) (hi9 : i9 + 4 < L)
    (hw : ZIH l yL_press wsL_press rm (zX ea mi sa) D T (S := S1) (ouW out T f :: Wc) (fun u => ouW out T f' :: Wc' u) [.ref o, .int (xs (i9 + 1)), .int (xs (i9 + 2)), .int (xs (i9 + 3)), .ref out] k mc ms) (hrm : rm.cells = mc ∧ rm.slots = ms ∧ rm.frames + 1 ≤ 11 ∧ 8 + (6 + 11) + rm.locals ≤ 404) (hf : ∀ (u : S1) (j : Nat), j < (ouW out T f :: Wc).length → ((ouW out T f' :: Wc' u).map Prod.fst)[j]? = ((ouW out T f :: Wc).map Prod.fst)[j]?) (hlen : ∀ u : S1, (ouW out T f :: Wc).length ≤ (ouW out T f' :: Wc' u).length)
    (hm : ZM l yX6_press wsX6_press (zrm 3 73) D T (S := S2) (mW om am T σ) (fun u => mW om am T (σ' u)) [.ref om, .int (xs (i9 + 1)), .int (xs (i9 + 2)), .int (xs (i9 + 3))] rv) (h31 : ∀ u2 : S2, σ' u2 31 0 = k) (hk : k = 0 → f' (0 : Int32).toNatClampNeg = rv.toInt64) (hroom : cells + mc ≤ R.cells ∧ slots + ms ≤ R.slots) (Mz9 : zM D A s.heap (mW om am T σ ++ (ouW out T f :: Wc)) Hp9 lc9) (hl9 : lv_has sl9 7 [(4, .int (nI (i9))), (0, .ref b), (1, .ref o), (2, .ref om), (3, .ref out)])
    (kk : ∀ (u1 : S1) (u2 : S2) (Hp9 : Heap) (lc9 : List Loc) (sl9 : Array Slot), zM D A s.heap (mW om am T (σ' u2) ++ (ouW out T f' :: Wc' u1)) Hp9 lc9 → lv_has sl9 7 [(4, .int (nI (i9))), (0, .ref b), (1, .ref o), (2, .ref om), (3, .ref out)] → W p l e R s m args below meth c Hp9 lc9 (cells + mc) (slots + ms) Q (F0 m 1784 sl9 [])) :
    W p l e R s m args below meth c Hp9 lc9 cells slots Q (F0 m 1047 sl9 []) := by
  have hx := Z.1.1
  have hb := Z.1.2.1
  have hts := Z.1.2.2.2.2
  refine lv_aload_n hx hb dL_law_1047 rfl (lv_at hl9 2 rfl) ?_
  refine lv_aload_n hx hb dL_law_1048 rfl (lv_at hl9 1 rfl) ?_
  refine lv_iload hx hb dL_law_1049 (lv_at hl9 0 rfl) ?_
  refine lv_iconst (v := 1) hx hb dL_law_1051 (by decide) ?_
  refine zn_iadd (a := i9) (b := 1) hx hb dL_law_1052 ?_
  refine z_sld Z Mz9 hX9 hbl hbA (j := i9 + 1) (by omega) hL2 dL_law_1053 ?_
  refine lv_aload_n hx hb dL_law_1054 rfl (lv_at hl9 1 rfl) ?_
  refine lv_iload hx hb dL_law_1055 (lv_at hl9 0 rfl) ?_
  refine lv_iconst (v := 2) hx hb dL_law_1057 (by decide) ?_
  refine zn_iadd (a := i9) (b := 2) hx hb dL_law_1058 ?_
  refine z_sld Z Mz9 hX9 hbl hbA (j := i9 + 2) (by omega) hL2 dL_law_1059 ?_
  refine lv_aload_n hx hb dL_law_1060 rfl (lv_at hl9 1 rfl) ?_
  refine lv_iload hx hb dL_law_1061 (lv_at hl9 0 rfl) ?_
  refine lv_iconst (v := 3) hx hb dL_law_1063 (by decide) ?_
  refine zn_iadd (a := i9) (b := 3) hx hb dL_law_1064 ?_
  refine z_sld Z Mz9 hX9 hbl hbA (j := i9 + 3) (by omega) hL2 dL_law_1065 ?_
  refine lv_aload_n hx hb dL_law_1066 rfl (lv_at hl9 4 rfl) ?_
  obtain ⟨isw, w1, w2, w3⟩ := mid_put4 (mW om am T σ) (ouW out T f :: Wc)
  refine z_callSWH (As := [.ref o, .int (xs (i9 + 1)), .int (xs (i9 + 2)), .int (xs (i9 + 3)), .ref out]) (rest := []) (wc := ouW out T f :: Wc) (zX_k ea mi sa) hXX Z Mz9 hw (vx_cwSW 5 hts gT_law_L_press rfl hrm.1 hrm.2.1 (by decide +kernel) ⟨Nat.le_trans hrm.2.2.1 hR.1, Nat.le_trans hrm.2.2.2 hR.2⟩) isw w1 w2 hf hlen rfl hl9.1 (Nat.le_of_ble_eq_true rfl) dL_law_1067 hroom rfl (fun u1 Hp9 lc9 Mz9 => ?_)
  have Mz9 : zM D A s.heap (mW om am T σ ++ (ouW out T f' :: Wc' u1)) _ _ := zM_w (w3 _ (hlen u1)) Mz9
  refine lv_istore (lv' := [(5, .int (k)), (4, .int (nI (i9))), (0, .ref b), (1, .ref o), (2, .ref om), (3, .ref out)]) hx hb dL_law_1070 hl9 (by decide) rfl (fun sl9 hl9 => ?_)
  refine lv_aload_n hx hb dL_law_1072 rfl (lv_at hl9 4 rfl) ?_
  refine lv_aload_n hx hb dL_law_1073 rfl (lv_at hl9 2 rfl) ?_
  refine lv_iload hx hb dL_law_1074 (lv_at hl9 1 rfl) ?_
  refine lv_iconst (v := 1) hx hb dL_law_1076 (by decide) ?_
  refine zn_iadd (a := i9) (b := 1) hx hb dL_law_1077 ?_
  refine z_sld Z Mz9 hX9 hbl hbA (j := i9 + 1) (by omega) hL2 dL_law_1078 ?_
  refine lv_aload_n hx hb dL_law_1079 rfl (lv_at hl9 2 rfl) ?_
  refine lv_iload hx hb dL_law_1080 (lv_at hl9 1 rfl) ?_
  refine lv_iconst (v := 2) hx hb dL_law_1082 (by decide) ?_
  refine zn_iadd (a := i9) (b := 2) hx hb dL_law_1083 ?_
  refine z_sld Z Mz9 hX9 hbl hbA (j := i9 + 2) (by omega) hL2 dL_law_1084 ?_
  refine lv_aload_n hx hb dL_law_1085 rfl (lv_at hl9 2 rfl) ?_
  refine lv_iload hx hb dL_law_1086 (lv_at hl9 1 rfl) ?_
  refine lv_iconst (v := 3) hx hb dL_law_1088 (by decide) ?_
  refine zn_iadd (a := i9) (b := 3) hx hb dL_law_1089 ?_
  refine z_sld Z Mz9 hX9 hbl hbA (j := i9 + 3) (by omega) hL2 dL_law_1090 ?_
  obtain ⟨ism, m1, m2, m3⟩ := mid_put3 (mW om am T σ) (ouW out T f' :: Wc' u1)
  refine z_callViP (As := [.int (xs (i9 + 1)), .int (xs (i9 + 2)), .int (xs (i9 + 3))]) (rest := []) (rv := rv) (wc := mW om am T σ) (wG := fun u => mW om am T (σ' u)) zT_k trivial Z Mz9 hm (cwV 3 hts gT_law_X6_press rfl rfl rfl (by decide +kernel) ⟨Nat.le_trans (Nat.le_of_ble_eq_true rfl) hR.1, Nat.le_trans (Nat.le_of_ble_eq_true rfl) hR.2⟩) ism m1 m2 (fun u j hj => rfl) (fun _ => Nat.le_refl _) (va_recv Z.2.1 Mz9.1 (ci := 7) (q0 := 0) rfl rfl) rfl hl9.1 (Nat.le_of_ble_eq_true rfl) dL_law_1091 hroom rfl (fun u2 Hp9 lc9 Mz9 => ?_)
  have Mz9 : zM D A s.heap (mW om am T (σ' u2) ++ (ouW out T f' :: Wc' u1)) _ _ := zM_w (m3 _ rfl) Mz9
  refine lv_istore (lv' := [(6, .int (rv)), (5, .int (k)), (4, .int (nI (i9))), (0, .ref b), (1, .ref o), (2, .ref om), (3, .ref out)]) hx hb dL_law_1094 hl9 (by decide) rfl (fun sl9 hl9 => ?_)
  refine lv_aload_n hx hb dL_law_1096 rfl (lv_at hl9 5 rfl) ?_
  obtain ⟨ist, t1, t2, t3⟩ := mid_put3 (mW om am T (σ' u2)) (ouW out T f' :: Wc' u1)
  refine z_callVi (As := []) (rest := []) (rv := σ' u2 31 0) (wc := mW om am T (σ' u2)) (wc' := mW om am T (σ' u2)) Z Mz9 (cm_thrown l D T om am (σ' u2)) (cwV 0 hts gT_law_X6_thrown rfl rfl rfl (by decide +kernel) ⟨Nat.le_trans (Nat.le_of_ble_eq_true rfl) hR.1, Nat.le_trans (Nat.le_of_ble_eq_true rfl) hR.2⟩) ist t1 t2 (fun j hj => rfl) (Nat.le_refl _) (va_recv Z.2.1 Mz9.1 (ci := 7) (q0 := 0) rfl rfl) rfl hl9.1 (Nat.le_of_ble_eq_true rfl) dL_law_1097 hroom rfl (fun Hp9 lc9 Mz9 => ?_)
  have Mz9 : zM D A s.heap (mW om am T (σ' u2) ++ (ouW out T f' :: Wc' u1)) _ _ := zM_w (t3 _ rfl) Mz9
  refine zn_top (y := k) (h31 u2) ?_
  refine lv_iload hx hb dL_law_1100 (lv_at hl9 1 rfl) ?_
  refine lv_icmp_eq (tgt := 1107) hx hb dL_law_1102 (by decide) (fun _ => ?_) (fun h => absurd h (fun z => z rfl))
  refine lv_iload hx hb dL_law_1107 (lv_at hl9 1 rfl) ?_
  refine lv_if_ne (tgt := 1124) hx hb dL_law_1109 (by decide) (fun c1 => ?_) (fun c1 => ?_)
  ·
    refine lv_goto (tgt := 1784) hx hb dL_law_1124 (by decide) ?_
    exact kk u1 u2 _ _ _ Mz9 (lv_sub hl9 [2, 3, 4, 5, 6] rfl)
  ·
    refine lv_aload_n hx hb dL_law_1112 rfl (lv_at hl9 6 rfl) ?_
    refine lv_iconst (v := 0) hx hb dL_law_1113 (by decide) ?_
    refine va_lald hx hb Z.2.1 Mz9.1 26 2 (cA := T 2) (n := 1) (f := f') rfl rfl (i := 0) (by unfold vp_in; decide) dL_law_1114 ?_
    rw [hk c1]
    refine lv_iload hx hb dL_law_1115 (lv_at hl9 0 rfl) ?_
    refine lv_i2l (v := rv.toInt64) hx hb dL_law_1117 rfl ?_
    refine W.lcmp hx hb dL_law_1118 ?_
    rw [lgc]
    refine lv_if_eq (tgt := 1124) hx hb dL_law_1119 (by decide) (fun _ => ?_) (fun h => absurd h (by decide))
    refine lv_goto (tgt := 1784) hx hb dL_law_1124 (by decide) ?_
    exact kk u1 u2 _ _ _ Mz9 (lv_sub hl9 [2, 3, 4, 5, 6] rfl)
set_option maxHeartbeats 4000000 in
set_option maxRecDepth 100000 in
theorem lc_quench (Z : zC p s m args c cL_law 7 RL lw_tbl D T A) (hR : 11 ≤ R.frames ∧ 404 ≤ R.locals) (hXX : zX ea mi sa A s s.heap) (hX9 : va_X b L xs s s.heap) (hbl : b < s.heap.size) (hbA : ¬ A b) (hL2 : L < 2 ^ 31) (hi9 : i9 + 4 < L)
    (hw : ZIH l yL_quench wsL_quench rm (zX ea mi sa) D T (S := S1) (ouW out T f :: Wc) (fun u => ouW out T f' :: Wc' u) [.ref o, .int (xs (i9 + 1)), .int (xs (i9 + 2)), .ref out] k mc ms) (hrm : rm.cells = mc ∧ rm.slots = ms ∧ rm.frames + 1 ≤ 11 ∧ 8 + (5 + 11) + rm.locals ≤ 404) (hf : ∀ (u : S1) (j : Nat), j < (ouW out T f :: Wc).length → ((ouW out T f' :: Wc' u).map Prod.fst)[j]? = ((ouW out T f :: Wc).map Prod.fst)[j]?) (hlen : ∀ u : S1, (ouW out T f :: Wc).length ≤ (ouW out T f' :: Wc' u).length)
    (hm : ZM l yX6_quench wsX6_quench (zrm 2 49) D T (S := S2) (mW om am T σ) (fun u => mW om am T (σ' u)) [.ref om, .int (xs (i9 + 1)), .int (xs (i9 + 2))] rv) (h31 : ∀ u2 : S2, σ' u2 31 0 = k) (hk : k = 0 → f' (0 : Int32).toNatClampNeg = rv.toInt64) (hroom : cells + mc ≤ R.cells ∧ slots + ms ≤ R.slots) (Mz9 : zM D A s.heap (mW om am T σ ++ (ouW out T f :: Wc)) Hp9 lc9) (hl9 : lv_has sl9 7 [(4, .int (nI (i9))), (0, .ref b), (1, .ref o), (2, .ref om), (3, .ref out)])
    (kk : ∀ (u1 : S1) (u2 : S2) (Hp9 : Heap) (lc9 : List Loc) (sl9 : Array Slot), zM D A s.heap (mW om am T (σ' u2) ++ (ouW out T f' :: Wc' u1)) Hp9 lc9 → lv_has sl9 7 [(4, .int (nI (i9))), (0, .ref b), (1, .ref o), (2, .ref om), (3, .ref out)] → W p l e R s m args below meth c Hp9 lc9 (cells + mc) (slots + ms) Q (F0 m 1784 sl9 [])) :
    W p l e R s m args below meth c Hp9 lc9 cells slots Q (F0 m 1127 sl9 []) := by
  have hx := Z.1.1
  have hb := Z.1.2.1
  have hts := Z.1.2.2.2.2
  refine lv_aload_n hx hb dL_law_1127 rfl (lv_at hl9 2 rfl) ?_
  refine lv_aload_n hx hb dL_law_1128 rfl (lv_at hl9 1 rfl) ?_
  refine lv_iload hx hb dL_law_1129 (lv_at hl9 0 rfl) ?_
  refine lv_iconst (v := 1) hx hb dL_law_1131 (by decide) ?_
  refine zn_iadd (a := i9) (b := 1) hx hb dL_law_1132 ?_
  refine z_sld Z Mz9 hX9 hbl hbA (j := i9 + 1) (by omega) hL2 dL_law_1133 ?_
  refine lv_aload_n hx hb dL_law_1134 rfl (lv_at hl9 1 rfl) ?_
  refine lv_iload hx hb dL_law_1135 (lv_at hl9 0 rfl) ?_
  refine lv_iconst (v := 2) hx hb dL_law_1137 (by decide) ?_
  refine zn_iadd (a := i9) (b := 2) hx hb dL_law_1138 ?_
  refine z_sld Z Mz9 hX9 hbl hbA (j := i9 + 2) (by omega) hL2 dL_law_1139 ?_
  refine lv_aload_n hx hb dL_law_1140 rfl (lv_at hl9 4 rfl) ?_
  obtain ⟨isw, w1, w2, w3⟩ := mid_put4 (mW om am T σ) (ouW out T f :: Wc)
  refine z_callSWH (As := [.ref o, .int (xs (i9 + 1)), .int (xs (i9 + 2)), .ref out]) (rest := []) (wc := ouW out T f :: Wc) (zX_k ea mi sa) hXX Z Mz9 hw (vx_cwSW 4 hts gT_law_L_quench rfl hrm.1 hrm.2.1 (by decide +kernel) ⟨Nat.le_trans hrm.2.2.1 hR.1, Nat.le_trans hrm.2.2.2 hR.2⟩) isw w1 w2 hf hlen rfl hl9.1 (Nat.le_of_ble_eq_true rfl) dL_law_1141 hroom rfl (fun u1 Hp9 lc9 Mz9 => ?_)
  have Mz9 : zM D A s.heap (mW om am T σ ++ (ouW out T f' :: Wc' u1)) _ _ := zM_w (w3 _ (hlen u1)) Mz9
  refine lv_istore (lv' := [(5, .int (k)), (4, .int (nI (i9))), (0, .ref b), (1, .ref o), (2, .ref om), (3, .ref out)]) hx hb dL_law_1144 hl9 (by decide) rfl (fun sl9 hl9 => ?_)
  refine lv_aload_n hx hb dL_law_1146 rfl (lv_at hl9 4 rfl) ?_
  refine lv_aload_n hx hb dL_law_1147 rfl (lv_at hl9 2 rfl) ?_
  refine lv_iload hx hb dL_law_1148 (lv_at hl9 1 rfl) ?_
  refine lv_iconst (v := 1) hx hb dL_law_1150 (by decide) ?_
  refine zn_iadd (a := i9) (b := 1) hx hb dL_law_1151 ?_
  refine z_sld Z Mz9 hX9 hbl hbA (j := i9 + 1) (by omega) hL2 dL_law_1152 ?_
  refine lv_aload_n hx hb dL_law_1153 rfl (lv_at hl9 2 rfl) ?_
  refine lv_iload hx hb dL_law_1154 (lv_at hl9 1 rfl) ?_
  refine lv_iconst (v := 2) hx hb dL_law_1156 (by decide) ?_
  refine zn_iadd (a := i9) (b := 2) hx hb dL_law_1157 ?_
  refine z_sld Z Mz9 hX9 hbl hbA (j := i9 + 2) (by omega) hL2 dL_law_1158 ?_
  obtain ⟨ism, m1, m2, m3⟩ := mid_put3 (mW om am T σ) (ouW out T f' :: Wc' u1)
  refine z_callViP (As := [.int (xs (i9 + 1)), .int (xs (i9 + 2))]) (rest := []) (rv := rv) (wc := mW om am T σ) (wG := fun u => mW om am T (σ' u)) zT_k trivial Z Mz9 hm (cwV 2 hts gT_law_X6_quench rfl rfl rfl (by decide +kernel) ⟨Nat.le_trans (Nat.le_of_ble_eq_true rfl) hR.1, Nat.le_trans (Nat.le_of_ble_eq_true rfl) hR.2⟩) ism m1 m2 (fun u j hj => rfl) (fun _ => Nat.le_refl _) (va_recv Z.2.1 Mz9.1 (ci := 7) (q0 := 0) rfl rfl) rfl hl9.1 (Nat.le_of_ble_eq_true rfl) dL_law_1159 hroom rfl (fun u2 Hp9 lc9 Mz9 => ?_)
  have Mz9 : zM D A s.heap (mW om am T (σ' u2) ++ (ouW out T f' :: Wc' u1)) _ _ := zM_w (m3 _ rfl) Mz9
  refine lv_istore (lv' := [(6, .int (rv)), (5, .int (k)), (4, .int (nI (i9))), (0, .ref b), (1, .ref o), (2, .ref om), (3, .ref out)]) hx hb dL_law_1162 hl9 (by decide) rfl (fun sl9 hl9 => ?_)
  refine lv_aload_n hx hb dL_law_1164 rfl (lv_at hl9 5 rfl) ?_
  obtain ⟨ist, t1, t2, t3⟩ := mid_put3 (mW om am T (σ' u2)) (ouW out T f' :: Wc' u1)
  refine z_callVi (As := []) (rest := []) (rv := σ' u2 31 0) (wc := mW om am T (σ' u2)) (wc' := mW om am T (σ' u2)) Z Mz9 (cm_thrown l D T om am (σ' u2)) (cwV 0 hts gT_law_X6_thrown rfl rfl rfl (by decide +kernel) ⟨Nat.le_trans (Nat.le_of_ble_eq_true rfl) hR.1, Nat.le_trans (Nat.le_of_ble_eq_true rfl) hR.2⟩) ist t1 t2 (fun j hj => rfl) (Nat.le_refl _) (va_recv Z.2.1 Mz9.1 (ci := 7) (q0 := 0) rfl rfl) rfl hl9.1 (Nat.le_of_ble_eq_true rfl) dL_law_1165 hroom rfl (fun Hp9 lc9 Mz9 => ?_)
  have Mz9 : zM D A s.heap (mW om am T (σ' u2) ++ (ouW out T f' :: Wc' u1)) _ _ := zM_w (t3 _ rfl) Mz9
  refine zn_top (y := k) (h31 u2) ?_
  refine lv_iload hx hb dL_law_1168 (lv_at hl9 1 rfl) ?_
  refine lv_icmp_eq (tgt := 1175) hx hb dL_law_1170 (by decide) (fun _ => ?_) (fun h => absurd h (fun z => z rfl))
  refine lv_iload hx hb dL_law_1175 (lv_at hl9 1 rfl) ?_
  refine lv_if_ne (tgt := 1192) hx hb dL_law_1177 (by decide) (fun c1 => ?_) (fun c1 => ?_)
  ·
    refine lv_goto (tgt := 1784) hx hb dL_law_1192 (by decide) ?_
    exact kk u1 u2 _ _ _ Mz9 (lv_sub hl9 [2, 3, 4, 5, 6] rfl)
  ·
    refine lv_aload_n hx hb dL_law_1180 rfl (lv_at hl9 6 rfl) ?_
    refine lv_iconst (v := 0) hx hb dL_law_1181 (by decide) ?_
    refine va_lald hx hb Z.2.1 Mz9.1 26 2 (cA := T 2) (n := 1) (f := f') rfl rfl (i := 0) (by unfold vp_in; decide) dL_law_1182 ?_
    rw [hk c1]
    refine lv_iload hx hb dL_law_1183 (lv_at hl9 0 rfl) ?_
    refine lv_i2l (v := rv.toInt64) hx hb dL_law_1185 rfl ?_
    refine W.lcmp hx hb dL_law_1186 ?_
    rw [lgc]
    refine lv_if_eq (tgt := 1192) hx hb dL_law_1187 (by decide) (fun _ => ?_) (fun h => absurd h (by decide))
    refine lv_goto (tgt := 1784) hx hb dL_law_1192 (by decide) ?_
    exact kk u1 u2 _ _ _ Mz9 (lv_sub hl9 [2, 3, 4, 5, 6] rfl)
set_option maxHeartbeats 4000000 in
set_option maxRecDepth 100000 in
theorem lc_temper (Z : zC p s m args c cL_law 7 RL lw_tbl D T A) (hR : 11 ≤ R.frames ∧ 404 ≤ R.locals) (hXX : zX ea mi sa A s s.heap) (hX9 : va_X b L xs s s.heap) (hbl : b < s.heap.size) (hbA : ¬ A b) (hL2 : L < 2 ^ 31) (hi9 : i9 + 4 < L)
    (hw : ZIH l yL_temper wsL_temper rm (zX ea mi sa) D T (S := S1) (ouW out T f :: Wc) (fun u => ouW out T f' :: Wc' u) [.ref o, .int (xs (i9 + 1)), .int (xs (i9 + 2)), .ref out] k mc ms) (hrm : rm.cells = mc ∧ rm.slots = ms ∧ rm.frames + 1 ≤ 11 ∧ 8 + (5 + 11) + rm.locals ≤ 404) (hf : ∀ (u : S1) (j : Nat), j < (ouW out T f :: Wc).length → ((ouW out T f' :: Wc' u).map Prod.fst)[j]? = ((ouW out T f :: Wc).map Prod.fst)[j]?) (hlen : ∀ u : S1, (ouW out T f :: Wc).length ≤ (ouW out T f' :: Wc' u).length)
    (hm : ZM l yX6_temper wsX6_temper (zrm 2 46) D T (S := S2) (mW om am T σ) (fun u => mW om am T (σ' u)) [.ref om, .int (xs (i9 + 1)), .int (xs (i9 + 2))] rv) (h31 : ∀ u2 : S2, σ' u2 31 0 = k) (hk : k = 0 → f' (0 : Int32).toNatClampNeg = rv.toInt64) (hroom : cells + mc ≤ R.cells ∧ slots + ms ≤ R.slots) (Mz9 : zM D A s.heap (mW om am T σ ++ (ouW out T f :: Wc)) Hp9 lc9) (hl9 : lv_has sl9 7 [(4, .int (nI (i9))), (0, .ref b), (1, .ref o), (2, .ref om), (3, .ref out)])
    (kk : ∀ (u1 : S1) (u2 : S2) (Hp9 : Heap) (lc9 : List Loc) (sl9 : Array Slot), zM D A s.heap (mW om am T (σ' u2) ++ (ouW out T f' :: Wc' u1)) Hp9 lc9 → lv_has sl9 7 [(4, .int (nI (i9))), (0, .ref b), (1, .ref o), (2, .ref om), (3, .ref out)] → W p l e R s m args below meth c Hp9 lc9 (cells + mc) (slots + ms) Q (F0 m 1784 sl9 [])) :
    W p l e R s m args below meth c Hp9 lc9 cells slots Q (F0 m 1195 sl9 []) := by
  have hx := Z.1.1
  have hb := Z.1.2.1
  have hts := Z.1.2.2.2.2
  refine lv_aload_n hx hb dL_law_1195 rfl (lv_at hl9 2 rfl) ?_
  refine lv_aload_n hx hb dL_law_1196 rfl (lv_at hl9 1 rfl) ?_
  refine lv_iload hx hb dL_law_1197 (lv_at hl9 0 rfl) ?_
  refine lv_iconst (v := 1) hx hb dL_law_1199 (by decide) ?_
  refine zn_iadd (a := i9) (b := 1) hx hb dL_law_1200 ?_
  refine z_sld Z Mz9 hX9 hbl hbA (j := i9 + 1) (by omega) hL2 dL_law_1201 ?_
  refine lv_aload_n hx hb dL_law_1202 rfl (lv_at hl9 1 rfl) ?_
  refine lv_iload hx hb dL_law_1203 (lv_at hl9 0 rfl) ?_
  refine lv_iconst (v := 2) hx hb dL_law_1205 (by decide) ?_
  refine zn_iadd (a := i9) (b := 2) hx hb dL_law_1206 ?_
  refine z_sld Z Mz9 hX9 hbl hbA (j := i9 + 2) (by omega) hL2 dL_law_1207 ?_
  refine lv_aload_n hx hb dL_law_1208 rfl (lv_at hl9 4 rfl) ?_
  obtain ⟨isw, w1, w2, w3⟩ := mid_put4 (mW om am T σ) (ouW out T f :: Wc)
  refine z_callSWH (As := [.ref o, .int (xs (i9 + 1)), .int (xs (i9 + 2)), .ref out]) (rest := []) (wc := ouW out T f :: Wc) (zX_k ea mi sa) hXX Z Mz9 hw (vx_cwSW 4 hts gT_law_L_temper rfl hrm.1 hrm.2.1 (by decide +kernel) ⟨Nat.le_trans hrm.2.2.1 hR.1, Nat.le_trans hrm.2.2.2 hR.2⟩) isw w1 w2 hf hlen rfl hl9.1 (Nat.le_of_ble_eq_true rfl) dL_law_1209 hroom rfl (fun u1 Hp9 lc9 Mz9 => ?_)
  have Mz9 : zM D A s.heap (mW om am T σ ++ (ouW out T f' :: Wc' u1)) _ _ := zM_w (w3 _ (hlen u1)) Mz9
  refine lv_istore (lv' := [(5, .int (k)), (4, .int (nI (i9))), (0, .ref b), (1, .ref o), (2, .ref om), (3, .ref out)]) hx hb dL_law_1212 hl9 (by decide) rfl (fun sl9 hl9 => ?_)
  refine lv_aload_n hx hb dL_law_1214 rfl (lv_at hl9 4 rfl) ?_
  refine lv_aload_n hx hb dL_law_1215 rfl (lv_at hl9 2 rfl) ?_
  refine lv_iload hx hb dL_law_1216 (lv_at hl9 1 rfl) ?_
  refine lv_iconst (v := 1) hx hb dL_law_1218 (by decide) ?_
  refine zn_iadd (a := i9) (b := 1) hx hb dL_law_1219 ?_
  refine z_sld Z Mz9 hX9 hbl hbA (j := i9 + 1) (by omega) hL2 dL_law_1220 ?_
  refine lv_aload_n hx hb dL_law_1221 rfl (lv_at hl9 2 rfl) ?_
  refine lv_iload hx hb dL_law_1222 (lv_at hl9 1 rfl) ?_
  refine lv_iconst (v := 2) hx hb dL_law_1224 (by decide) ?_
  refine zn_iadd (a := i9) (b := 2) hx hb dL_law_1225 ?_
  refine z_sld Z Mz9 hX9 hbl hbA (j := i9 + 2) (by omega) hL2 dL_law_1226 ?_
  obtain ⟨ism, m1, m2, m3⟩ := mid_put3 (mW om am T σ) (ouW out T f' :: Wc' u1)
  refine z_callViP (As := [.int (xs (i9 + 1)), .int (xs (i9 + 2))]) (rest := []) (rv := rv) (wc := mW om am T σ) (wG := fun u => mW om am T (σ' u)) zT_k trivial Z Mz9 hm (cwV 2 hts gT_law_X6_temper rfl rfl rfl (by decide +kernel) ⟨Nat.le_trans (Nat.le_of_ble_eq_true rfl) hR.1, Nat.le_trans (Nat.le_of_ble_eq_true rfl) hR.2⟩) ism m1 m2 (fun u j hj => rfl) (fun _ => Nat.le_refl _) (va_recv Z.2.1 Mz9.1 (ci := 7) (q0 := 0) rfl rfl) rfl hl9.1 (Nat.le_of_ble_eq_true rfl) dL_law_1227 hroom rfl (fun u2 Hp9 lc9 Mz9 => ?_)
  have Mz9 : zM D A s.heap (mW om am T (σ' u2) ++ (ouW out T f' :: Wc' u1)) _ _ := zM_w (m3 _ rfl) Mz9
  refine lv_istore (lv' := [(6, .int (rv)), (5, .int (k)), (4, .int (nI (i9))), (0, .ref b), (1, .ref o), (2, .ref om), (3, .ref out)]) hx hb dL_law_1230 hl9 (by decide) rfl (fun sl9 hl9 => ?_)
  refine lv_aload_n hx hb dL_law_1232 rfl (lv_at hl9 5 rfl) ?_
  obtain ⟨ist, t1, t2, t3⟩ := mid_put3 (mW om am T (σ' u2)) (ouW out T f' :: Wc' u1)
  refine z_callVi (As := []) (rest := []) (rv := σ' u2 31 0) (wc := mW om am T (σ' u2)) (wc' := mW om am T (σ' u2)) Z Mz9 (cm_thrown l D T om am (σ' u2)) (cwV 0 hts gT_law_X6_thrown rfl rfl rfl (by decide +kernel) ⟨Nat.le_trans (Nat.le_of_ble_eq_true rfl) hR.1, Nat.le_trans (Nat.le_of_ble_eq_true rfl) hR.2⟩) ist t1 t2 (fun j hj => rfl) (Nat.le_refl _) (va_recv Z.2.1 Mz9.1 (ci := 7) (q0 := 0) rfl rfl) rfl hl9.1 (Nat.le_of_ble_eq_true rfl) dL_law_1233 hroom rfl (fun Hp9 lc9 Mz9 => ?_)
  have Mz9 : zM D A s.heap (mW om am T (σ' u2) ++ (ouW out T f' :: Wc' u1)) _ _ := zM_w (t3 _ rfl) Mz9
  refine zn_top (y := k) (h31 u2) ?_
  refine lv_iload hx hb dL_law_1236 (lv_at hl9 1 rfl) ?_
  refine lv_icmp_eq (tgt := 1243) hx hb dL_law_1238 (by decide) (fun _ => ?_) (fun h => absurd h (fun z => z rfl))
  refine lv_iload hx hb dL_law_1243 (lv_at hl9 1 rfl) ?_
  refine lv_if_ne (tgt := 1260) hx hb dL_law_1245 (by decide) (fun c1 => ?_) (fun c1 => ?_)
  ·
    refine lv_goto (tgt := 1784) hx hb dL_law_1260 (by decide) ?_
    exact kk u1 u2 _ _ _ Mz9 (lv_sub hl9 [2, 3, 4, 5, 6] rfl)
  ·
    refine lv_aload_n hx hb dL_law_1248 rfl (lv_at hl9 6 rfl) ?_
    refine lv_iconst (v := 0) hx hb dL_law_1249 (by decide) ?_
    refine va_lald hx hb Z.2.1 Mz9.1 26 2 (cA := T 2) (n := 1) (f := f') rfl rfl (i := 0) (by unfold vp_in; decide) dL_law_1250 ?_
    rw [hk c1]
    refine lv_iload hx hb dL_law_1251 (lv_at hl9 0 rfl) ?_
    refine lv_i2l (v := rv.toInt64) hx hb dL_law_1253 rfl ?_
    refine W.lcmp hx hb dL_law_1254 ?_
    rw [lgc]
    refine lv_if_eq (tgt := 1260) hx hb dL_law_1255 (by decide) (fun _ => ?_) (fun h => absurd h (by decide))
    refine lv_goto (tgt := 1784) hx hb dL_law_1260 (by decide) ?_
    exact kk u1 u2 _ _ _ Mz9 (lv_sub hl9 [2, 3, 4, 5, 6] rfl)
set_option maxHeartbeats 4000000 in
set_option maxRecDepth 100000 in
theorem lc_hardness (Z : zC p s m args c cL_law 7 RL lw_tbl D T A) (hR : 11 ≤ R.frames ∧ 404 ≤ R.locals) (hXX : zX ea mi sa A s s.heap) (hX9 : va_X b L xs s s.heap) (hbl : b < s.heap.size) (hbA : ¬ A b) (hL2 : L < 2 ^ 31) (hi9 : i9 + 4 < L)
    (hw : ZIH l yL_hardness wsL_hardness rm (zX ea mi sa) D T (S := S1) (ouW out T f :: Wc) (fun u => ouW out T f' :: Wc' u) [.ref o, .int (xs (i9 + 1)), .int (xs (i9 + 2)), .ref out] k mc ms) (hrm : rm.cells = mc ∧ rm.slots = ms ∧ rm.frames + 1 ≤ 11 ∧ 8 + (5 + 11) + rm.locals ≤ 404) (hf : ∀ (u : S1) (j : Nat), j < (ouW out T f :: Wc).length → ((ouW out T f' :: Wc' u).map Prod.fst)[j]? = ((ouW out T f :: Wc).map Prod.fst)[j]?) (hlen : ∀ u : S1, (ouW out T f :: Wc).length ≤ (ouW out T f' :: Wc' u).length)
    (hm : ZM l yX6_hardness wsX6_hardness (zrm 2 43) D T (S := S2) (mW om am T σ) (fun u => mW om am T (σ' u)) [.ref om, .int (xs (i9 + 1)), .int (xs (i9 + 2))] rv) (h31 : ∀ u2 : S2, σ' u2 31 0 = k) (hk : k = 0 → f' (0 : Int32).toNatClampNeg = rv.toInt64) (hroom : cells + mc ≤ R.cells ∧ slots + ms ≤ R.slots) (Mz9 : zM D A s.heap (mW om am T σ ++ (ouW out T f :: Wc)) Hp9 lc9) (hl9 : lv_has sl9 7 [(4, .int (nI (i9))), (0, .ref b), (1, .ref o), (2, .ref om), (3, .ref out)])
    (kk : ∀ (u1 : S1) (u2 : S2) (Hp9 : Heap) (lc9 : List Loc) (sl9 : Array Slot), zM D A s.heap (mW om am T (σ' u2) ++ (ouW out T f' :: Wc' u1)) Hp9 lc9 → lv_has sl9 7 [(4, .int (nI (i9))), (0, .ref b), (1, .ref o), (2, .ref om), (3, .ref out)] → W p l e R s m args below meth c Hp9 lc9 (cells + mc) (slots + ms) Q (F0 m 1784 sl9 [])) :
    W p l e R s m args below meth c Hp9 lc9 cells slots Q (F0 m 1263 sl9 []) := by
  have hx := Z.1.1
  have hb := Z.1.2.1
  have hts := Z.1.2.2.2.2
  refine lv_aload_n hx hb dL_law_1263 rfl (lv_at hl9 2 rfl) ?_
  refine lv_aload_n hx hb dL_law_1264 rfl (lv_at hl9 1 rfl) ?_
  refine lv_iload hx hb dL_law_1265 (lv_at hl9 0 rfl) ?_
  refine lv_iconst (v := 1) hx hb dL_law_1267 (by decide) ?_
  refine zn_iadd (a := i9) (b := 1) hx hb dL_law_1268 ?_
  refine z_sld Z Mz9 hX9 hbl hbA (j := i9 + 1) (by omega) hL2 dL_law_1269 ?_
  refine lv_aload_n hx hb dL_law_1270 rfl (lv_at hl9 1 rfl) ?_
  refine lv_iload hx hb dL_law_1271 (lv_at hl9 0 rfl) ?_
  refine lv_iconst (v := 2) hx hb dL_law_1273 (by decide) ?_
  refine zn_iadd (a := i9) (b := 2) hx hb dL_law_1274 ?_
  refine z_sld Z Mz9 hX9 hbl hbA (j := i9 + 2) (by omega) hL2 dL_law_1275 ?_
  refine lv_aload_n hx hb dL_law_1276 rfl (lv_at hl9 4 rfl) ?_
  obtain ⟨isw, w1, w2, w3⟩ := mid_put4 (mW om am T σ) (ouW out T f :: Wc)
  refine z_callSWH (As := [.ref o, .int (xs (i9 + 1)), .int (xs (i9 + 2)), .ref out]) (rest := []) (wc := ouW out T f :: Wc) (zX_k ea mi sa) hXX Z Mz9 hw (vx_cwSW 4 hts gT_law_L_hardness rfl hrm.1 hrm.2.1 (by decide +kernel) ⟨Nat.le_trans hrm.2.2.1 hR.1, Nat.le_trans hrm.2.2.2 hR.2⟩) isw w1 w2 hf hlen rfl hl9.1 (Nat.le_of_ble_eq_true rfl) dL_law_1277 hroom rfl (fun u1 Hp9 lc9 Mz9 => ?_)
  have Mz9 : zM D A s.heap (mW om am T σ ++ (ouW out T f' :: Wc' u1)) _ _ := zM_w (w3 _ (hlen u1)) Mz9
  refine lv_istore (lv' := [(5, .int (k)), (4, .int (nI (i9))), (0, .ref b), (1, .ref o), (2, .ref om), (3, .ref out)]) hx hb dL_law_1280 hl9 (by decide) rfl (fun sl9 hl9 => ?_)
  refine lv_aload_n hx hb dL_law_1282 rfl (lv_at hl9 4 rfl) ?_
  refine lv_aload_n hx hb dL_law_1283 rfl (lv_at hl9 2 rfl) ?_
  refine lv_iload hx hb dL_law_1284 (lv_at hl9 1 rfl) ?_
  refine lv_iconst (v := 1) hx hb dL_law_1286 (by decide) ?_
  refine zn_iadd (a := i9) (b := 1) hx hb dL_law_1287 ?_
  refine z_sld Z Mz9 hX9 hbl hbA (j := i9 + 1) (by omega) hL2 dL_law_1288 ?_
  refine lv_aload_n hx hb dL_law_1289 rfl (lv_at hl9 2 rfl) ?_
  refine lv_iload hx hb dL_law_1290 (lv_at hl9 1 rfl) ?_
  refine lv_iconst (v := 2) hx hb dL_law_1292 (by decide) ?_
  refine zn_iadd (a := i9) (b := 2) hx hb dL_law_1293 ?_
  refine z_sld Z Mz9 hX9 hbl hbA (j := i9 + 2) (by omega) hL2 dL_law_1294 ?_
  obtain ⟨ism, m1, m2, m3⟩ := mid_put3 (mW om am T σ) (ouW out T f' :: Wc' u1)
  refine z_callViP (As := [.int (xs (i9 + 1)), .int (xs (i9 + 2))]) (rest := []) (rv := rv) (wc := mW om am T σ) (wG := fun u => mW om am T (σ' u)) zT_k trivial Z Mz9 hm (cwV 2 hts gT_law_X6_hardness rfl rfl rfl (by decide +kernel) ⟨Nat.le_trans (Nat.le_of_ble_eq_true rfl) hR.1, Nat.le_trans (Nat.le_of_ble_eq_true rfl) hR.2⟩) ism m1 m2 (fun u j hj => rfl) (fun _ => Nat.le_refl _) (va_recv Z.2.1 Mz9.1 (ci := 7) (q0 := 0) rfl rfl) rfl hl9.1 (Nat.le_of_ble_eq_true rfl) dL_law_1295 hroom rfl (fun u2 Hp9 lc9 Mz9 => ?_)
  have Mz9 : zM D A s.heap (mW om am T (σ' u2) ++ (ouW out T f' :: Wc' u1)) _ _ := zM_w (m3 _ rfl) Mz9
  refine lv_istore (lv' := [(6, .int (rv)), (5, .int (k)), (4, .int (nI (i9))), (0, .ref b), (1, .ref o), (2, .ref om), (3, .ref out)]) hx hb dL_law_1298 hl9 (by decide) rfl (fun sl9 hl9 => ?_)
  refine lv_aload_n hx hb dL_law_1300 rfl (lv_at hl9 5 rfl) ?_
  obtain ⟨ist, t1, t2, t3⟩ := mid_put3 (mW om am T (σ' u2)) (ouW out T f' :: Wc' u1)
  refine z_callVi (As := []) (rest := []) (rv := σ' u2 31 0) (wc := mW om am T (σ' u2)) (wc' := mW om am T (σ' u2)) Z Mz9 (cm_thrown l D T om am (σ' u2)) (cwV 0 hts gT_law_X6_thrown rfl rfl rfl (by decide +kernel) ⟨Nat.le_trans (Nat.le_of_ble_eq_true rfl) hR.1, Nat.le_trans (Nat.le_of_ble_eq_true rfl) hR.2⟩) ist t1 t2 (fun j hj => rfl) (Nat.le_refl _) (va_recv Z.2.1 Mz9.1 (ci := 7) (q0 := 0) rfl rfl) rfl hl9.1 (Nat.le_of_ble_eq_true rfl) dL_law_1301 hroom rfl (fun Hp9 lc9 Mz9 => ?_)
  have Mz9 : zM D A s.heap (mW om am T (σ' u2) ++ (ouW out T f' :: Wc' u1)) _ _ := zM_w (t3 _ rfl) Mz9
  refine zn_top (y := k) (h31 u2) ?_
  refine lv_iload hx hb dL_law_1304 (lv_at hl9 1 rfl) ?_
  refine lv_icmp_eq (tgt := 1311) hx hb dL_law_1306 (by decide) (fun _ => ?_) (fun h => absurd h (fun z => z rfl))
  refine lv_iload hx hb dL_law_1311 (lv_at hl9 1 rfl) ?_
  refine lv_if_ne (tgt := 1328) hx hb dL_law_1313 (by decide) (fun c1 => ?_) (fun c1 => ?_)
  ·
    refine lv_goto (tgt := 1784) hx hb dL_law_1328 (by decide) ?_
    exact kk u1 u2 _ _ _ Mz9 (lv_sub hl9 [2, 3, 4, 5, 6] rfl)
  ·
    refine lv_aload_n hx hb dL_law_1316 rfl (lv_at hl9 6 rfl) ?_
    refine lv_iconst (v := 0) hx hb dL_law_1317 (by decide) ?_
    refine va_lald hx hb Z.2.1 Mz9.1 26 2 (cA := T 2) (n := 1) (f := f') rfl rfl (i := 0) (by unfold vp_in; decide) dL_law_1318 ?_
    rw [hk c1]
    refine lv_iload hx hb dL_law_1319 (lv_at hl9 0 rfl) ?_
    refine lv_i2l (v := rv.toInt64) hx hb dL_law_1321 rfl ?_
    refine W.lcmp hx hb dL_law_1322 ?_
    rw [lgc]
    refine lv_if_eq (tgt := 1328) hx hb dL_law_1323 (by decide) (fun _ => ?_) (fun h => absurd h (by decide))
    refine lv_goto (tgt := 1784) hx hb dL_law_1328 (by decide) ?_
    exact kk u1 u2 _ _ _ Mz9 (lv_sub hl9 [2, 3, 4, 5, 6] rfl)
set_option maxHeartbeats 4000000 in
set_option maxRecDepth 100000 in
theorem lc_test (Z : zC p s m args c cL_law 7 RL lw_tbl D T A) (hR : 11 ≤ R.frames ∧ 404 ≤ R.locals) (hXX : zX ea mi sa A s s.heap) (hX9 : va_X b L xs s s.heap) (hbl : b < s.heap.size) (hbA : ¬ A b) (hL2 : L < 2 ^ 31) (hi9 : i9 + 4 < L)
    (hw : ZIH l yL_test wsL_test rm (zX ea mi sa) D T (S := S1) (ouW out T f :: Wc) (fun u => ouW out T f' :: Wc' u) [.ref o, .int (xs (i9 + 1)), .ref out] k mc ms) (hrm : rm.cells = mc ∧ rm.slots = ms ∧ rm.frames + 1 ≤ 11 ∧ 8 + (4 + 11) + rm.locals ≤ 404) (hf : ∀ (u : S1) (j : Nat), j < (ouW out T f :: Wc).length → ((ouW out T f' :: Wc' u).map Prod.fst)[j]? = ((ouW out T f :: Wc).map Prod.fst)[j]?) (hlen : ∀ u : S1, (ouW out T f :: Wc).length ≤ (ouW out T f' :: Wc' u).length)
    (hm : ZM l yX6_test wsX6_test (zrm 2 46) D T (S := S2) (mW om am T σ) (fun u => mW om am T (σ' u)) [.ref om, .int (xs (i9 + 1))] rv) (h31 : ∀ u2 : S2, σ' u2 31 0 = k) (hk : k = 0 → f' (0 : Int32).toNatClampNeg = rv.toInt64) (hroom : cells + mc ≤ R.cells ∧ slots + ms ≤ R.slots) (Mz9 : zM D A s.heap (mW om am T σ ++ (ouW out T f :: Wc)) Hp9 lc9) (hl9 : lv_has sl9 7 [(4, .int (nI (i9))), (0, .ref b), (1, .ref o), (2, .ref om), (3, .ref out)])
    (kk : ∀ (u1 : S1) (u2 : S2) (Hp9 : Heap) (lc9 : List Loc) (sl9 : Array Slot), zM D A s.heap (mW om am T (σ' u2) ++ (ouW out T f' :: Wc' u1)) Hp9 lc9 → lv_has sl9 7 [(4, .int (nI (i9))), (0, .ref b), (1, .ref o), (2, .ref om), (3, .ref out)] → W p l e R s m args below meth c Hp9 lc9 (cells + mc) (slots + ms) Q (F0 m 1784 sl9 [])) :
    W p l e R s m args below meth c Hp9 lc9 cells slots Q (F0 m 1331 sl9 []) := by
  have hx := Z.1.1
  have hb := Z.1.2.1
  have hts := Z.1.2.2.2.2
  refine lv_aload_n hx hb dL_law_1331 rfl (lv_at hl9 2 rfl) ?_
  refine lv_aload_n hx hb dL_law_1332 rfl (lv_at hl9 1 rfl) ?_
  refine lv_iload hx hb dL_law_1333 (lv_at hl9 0 rfl) ?_
  refine lv_iconst (v := 1) hx hb dL_law_1335 (by decide) ?_
  refine zn_iadd (a := i9) (b := 1) hx hb dL_law_1336 ?_
  refine z_sld Z Mz9 hX9 hbl hbA (j := i9 + 1) (by omega) hL2 dL_law_1337 ?_
  refine lv_aload_n hx hb dL_law_1338 rfl (lv_at hl9 4 rfl) ?_
  obtain ⟨isw, w1, w2, w3⟩ := mid_put4 (mW om am T σ) (ouW out T f :: Wc)
  refine z_callSWH (As := [.ref o, .int (xs (i9 + 1)), .ref out]) (rest := []) (wc := ouW out T f :: Wc) (zX_k ea mi sa) hXX Z Mz9 hw (vx_cwSW 3 hts gT_law_L_test rfl hrm.1 hrm.2.1 (by decide +kernel) ⟨Nat.le_trans hrm.2.2.1 hR.1, Nat.le_trans hrm.2.2.2 hR.2⟩) isw w1 w2 hf hlen rfl hl9.1 (Nat.le_of_ble_eq_true rfl) dL_law_1339 hroom rfl (fun u1 Hp9 lc9 Mz9 => ?_)
  have Mz9 : zM D A s.heap (mW om am T σ ++ (ouW out T f' :: Wc' u1)) _ _ := zM_w (w3 _ (hlen u1)) Mz9
  refine lv_istore (lv' := [(5, .int (k)), (4, .int (nI (i9))), (0, .ref b), (1, .ref o), (2, .ref om), (3, .ref out)]) hx hb dL_law_1342 hl9 (by decide) rfl (fun sl9 hl9 => ?_)
  refine lv_aload_n hx hb dL_law_1344 rfl (lv_at hl9 4 rfl) ?_
  refine lv_aload_n hx hb dL_law_1345 rfl (lv_at hl9 2 rfl) ?_
  refine lv_iload hx hb dL_law_1346 (lv_at hl9 1 rfl) ?_
  refine lv_iconst (v := 1) hx hb dL_law_1348 (by decide) ?_
  refine zn_iadd (a := i9) (b := 1) hx hb dL_law_1349 ?_
  refine z_sld Z Mz9 hX9 hbl hbA (j := i9 + 1) (by omega) hL2 dL_law_1350 ?_
  obtain ⟨ism, m1, m2, m3⟩ := mid_put3 (mW om am T σ) (ouW out T f' :: Wc' u1)
  refine z_callViP (As := [.int (xs (i9 + 1))]) (rest := []) (rv := rv) (wc := mW om am T σ) (wG := fun u => mW om am T (σ' u)) zT_k trivial Z Mz9 hm (cwV 1 hts gT_law_X6_test rfl rfl rfl (by decide +kernel) ⟨Nat.le_trans (Nat.le_of_ble_eq_true rfl) hR.1, Nat.le_trans (Nat.le_of_ble_eq_true rfl) hR.2⟩) ism m1 m2 (fun u j hj => rfl) (fun _ => Nat.le_refl _) (va_recv Z.2.1 Mz9.1 (ci := 7) (q0 := 0) rfl rfl) rfl hl9.1 (Nat.le_of_ble_eq_true rfl) dL_law_1351 hroom rfl (fun u2 Hp9 lc9 Mz9 => ?_)
  have Mz9 : zM D A s.heap (mW om am T (σ' u2) ++ (ouW out T f' :: Wc' u1)) _ _ := zM_w (m3 _ rfl) Mz9
  refine lv_istore (lv' := [(6, .int (rv)), (5, .int (k)), (4, .int (nI (i9))), (0, .ref b), (1, .ref o), (2, .ref om), (3, .ref out)]) hx hb dL_law_1354 hl9 (by decide) rfl (fun sl9 hl9 => ?_)
  refine lv_aload_n hx hb dL_law_1356 rfl (lv_at hl9 5 rfl) ?_
  obtain ⟨ist, t1, t2, t3⟩ := mid_put3 (mW om am T (σ' u2)) (ouW out T f' :: Wc' u1)
  refine z_callVi (As := []) (rest := []) (rv := σ' u2 31 0) (wc := mW om am T (σ' u2)) (wc' := mW om am T (σ' u2)) Z Mz9 (cm_thrown l D T om am (σ' u2)) (cwV 0 hts gT_law_X6_thrown rfl rfl rfl (by decide +kernel) ⟨Nat.le_trans (Nat.le_of_ble_eq_true rfl) hR.1, Nat.le_trans (Nat.le_of_ble_eq_true rfl) hR.2⟩) ist t1 t2 (fun j hj => rfl) (Nat.le_refl _) (va_recv Z.2.1 Mz9.1 (ci := 7) (q0 := 0) rfl rfl) rfl hl9.1 (Nat.le_of_ble_eq_true rfl) dL_law_1357 hroom rfl (fun Hp9 lc9 Mz9 => ?_)
  have Mz9 : zM D A s.heap (mW om am T (σ' u2) ++ (ouW out T f' :: Wc' u1)) _ _ := zM_w (t3 _ rfl) Mz9
  refine zn_top (y := k) (h31 u2) ?_
  refine lv_iload hx hb dL_law_1360 (lv_at hl9 1 rfl) ?_
  refine lv_icmp_eq (tgt := 1367) hx hb dL_law_1362 (by decide) (fun _ => ?_) (fun h => absurd h (fun z => z rfl))
  refine lv_iload hx hb dL_law_1367 (lv_at hl9 1 rfl) ?_
  refine lv_if_ne (tgt := 1384) hx hb dL_law_1369 (by decide) (fun c1 => ?_) (fun c1 => ?_)
  ·
    refine lv_goto (tgt := 1784) hx hb dL_law_1384 (by decide) ?_
    exact kk u1 u2 _ _ _ Mz9 (lv_sub hl9 [2, 3, 4, 5, 6] rfl)
  ·
    refine lv_aload_n hx hb dL_law_1372 rfl (lv_at hl9 6 rfl) ?_
    refine lv_iconst (v := 0) hx hb dL_law_1373 (by decide) ?_
    refine va_lald hx hb Z.2.1 Mz9.1 26 2 (cA := T 2) (n := 1) (f := f') rfl rfl (i := 0) (by unfold vp_in; decide) dL_law_1374 ?_
    rw [hk c1]
    refine lv_iload hx hb dL_law_1375 (lv_at hl9 0 rfl) ?_
    refine lv_i2l (v := rv.toInt64) hx hb dL_law_1377 rfl ?_
    refine W.lcmp hx hb dL_law_1378 ?_
    rw [lgc]
    refine lv_if_eq (tgt := 1384) hx hb dL_law_1379 (by decide) (fun _ => ?_) (fun h => absurd h (by decide))
    refine lv_goto (tgt := 1784) hx hb dL_law_1384 (by decide) ?_
    exact kk u1 u2 _ _ _ Mz9 (lv_sub hl9 [2, 3, 4, 5, 6] rfl)
set_option maxHeartbeats 4000000 in
set_option maxRecDepth 100000 in
theorem lc_paper (Z : zC p s m args c cL_law 7 RL lw_tbl D T A) (hR : 11 ≤ R.frames ∧ 404 ≤ R.locals) (hXX : zX ea mi sa A s s.heap) (hX9 : va_X b L xs s s.heap) (hbl : b < s.heap.size) (hbA : ¬ A b) (hL2 : L < 2 ^ 31) (hi9 : i9 + 4 < L)
    (hw : ZIH l yL_paper wsL_paper rm (zX ea mi sa) D T (S := S1) (ouW out T f :: Wc) (fun u => ouW out T f' :: Wc' u) [.ref o, .int (xs (i9 + 1)), .int (xs (i9 + 2)), .ref out] k mc ms) (hrm : rm.cells = mc ∧ rm.slots = ms ∧ rm.frames + 1 ≤ 11 ∧ 8 + (5 + 11) + rm.locals ≤ 404) (hf : ∀ (u : S1) (j : Nat), j < (ouW out T f :: Wc).length → ((ouW out T f' :: Wc' u).map Prod.fst)[j]? = ((ouW out T f :: Wc).map Prod.fst)[j]?) (hlen : ∀ u : S1, (ouW out T f :: Wc).length ≤ (ouW out T f' :: Wc' u).length)
    (hm : ZM l yX6_paper wsX6_paper (zrm 2 46) D T (S := S2) (mW om am T σ) (fun u => mW om am T (σ' u)) [.ref om, .int (xs (i9 + 1)), .int (xs (i9 + 2))] rv) (h31 : ∀ u2 : S2, σ' u2 31 0 = k) (hk : k = 0 → f' (0 : Int32).toNatClampNeg = rv.toInt64) (hroom : cells + mc ≤ R.cells ∧ slots + ms ≤ R.slots) (Mz9 : zM D A s.heap (mW om am T σ ++ (ouW out T f :: Wc)) Hp9 lc9) (hl9 : lv_has sl9 7 [(4, .int (nI (i9))), (0, .ref b), (1, .ref o), (2, .ref om), (3, .ref out)])
    (kk : ∀ (u1 : S1) (u2 : S2) (Hp9 : Heap) (lc9 : List Loc) (sl9 : Array Slot), zM D A s.heap (mW om am T (σ' u2) ++ (ouW out T f' :: Wc' u1)) Hp9 lc9 → lv_has sl9 7 [(4, .int (nI (i9))), (0, .ref b), (1, .ref o), (2, .ref om), (3, .ref out)] → W p l e R s m args below meth c Hp9 lc9 (cells + mc) (slots + ms) Q (F0 m 1784 sl9 [])) :
    W p l e R s m args below meth c Hp9 lc9 cells slots Q (F0 m 1387 sl9 []) := by
  have hx := Z.1.1
  have hb := Z.1.2.1
  have hts := Z.1.2.2.2.2
  refine lv_aload_n hx hb dL_law_1387 rfl (lv_at hl9 2 rfl) ?_
  refine lv_aload_n hx hb dL_law_1388 rfl (lv_at hl9 1 rfl) ?_
  refine lv_iload hx hb dL_law_1389 (lv_at hl9 0 rfl) ?_
  refine lv_iconst (v := 1) hx hb dL_law_1391 (by decide) ?_
  refine zn_iadd (a := i9) (b := 1) hx hb dL_law_1392 ?_
  refine z_sld Z Mz9 hX9 hbl hbA (j := i9 + 1) (by omega) hL2 dL_law_1393 ?_
  refine lv_aload_n hx hb dL_law_1394 rfl (lv_at hl9 1 rfl) ?_
  refine lv_iload hx hb dL_law_1395 (lv_at hl9 0 rfl) ?_
  refine lv_iconst (v := 2) hx hb dL_law_1397 (by decide) ?_
  refine zn_iadd (a := i9) (b := 2) hx hb dL_law_1398 ?_
  refine z_sld Z Mz9 hX9 hbl hbA (j := i9 + 2) (by omega) hL2 dL_law_1399 ?_
  refine lv_aload_n hx hb dL_law_1400 rfl (lv_at hl9 4 rfl) ?_
  obtain ⟨isw, w1, w2, w3⟩ := mid_put4 (mW om am T σ) (ouW out T f :: Wc)
  refine z_callSWH (As := [.ref o, .int (xs (i9 + 1)), .int (xs (i9 + 2)), .ref out]) (rest := []) (wc := ouW out T f :: Wc) (zX_k ea mi sa) hXX Z Mz9 hw (vx_cwSW 4 hts gT_law_L_paper rfl hrm.1 hrm.2.1 (by decide +kernel) ⟨Nat.le_trans hrm.2.2.1 hR.1, Nat.le_trans hrm.2.2.2 hR.2⟩) isw w1 w2 hf hlen rfl hl9.1 (Nat.le_of_ble_eq_true rfl) dL_law_1401 hroom rfl (fun u1 Hp9 lc9 Mz9 => ?_)
  have Mz9 : zM D A s.heap (mW om am T σ ++ (ouW out T f' :: Wc' u1)) _ _ := zM_w (w3 _ (hlen u1)) Mz9
  refine lv_istore (lv' := [(5, .int (k)), (4, .int (nI (i9))), (0, .ref b), (1, .ref o), (2, .ref om), (3, .ref out)]) hx hb dL_law_1404 hl9 (by decide) rfl (fun sl9 hl9 => ?_)
  refine lv_aload_n hx hb dL_law_1406 rfl (lv_at hl9 4 rfl) ?_
  refine lv_aload_n hx hb dL_law_1407 rfl (lv_at hl9 2 rfl) ?_
  refine lv_iload hx hb dL_law_1408 (lv_at hl9 1 rfl) ?_
  refine lv_iconst (v := 1) hx hb dL_law_1410 (by decide) ?_
  refine zn_iadd (a := i9) (b := 1) hx hb dL_law_1411 ?_
  refine z_sld Z Mz9 hX9 hbl hbA (j := i9 + 1) (by omega) hL2 dL_law_1412 ?_
  refine lv_aload_n hx hb dL_law_1413 rfl (lv_at hl9 2 rfl) ?_
  refine lv_iload hx hb dL_law_1414 (lv_at hl9 1 rfl) ?_
  refine lv_iconst (v := 2) hx hb dL_law_1416 (by decide) ?_
  refine zn_iadd (a := i9) (b := 2) hx hb dL_law_1417 ?_
  refine z_sld Z Mz9 hX9 hbl hbA (j := i9 + 2) (by omega) hL2 dL_law_1418 ?_
  obtain ⟨ism, m1, m2, m3⟩ := mid_put3 (mW om am T σ) (ouW out T f' :: Wc' u1)
  refine z_callViP (As := [.int (xs (i9 + 1)), .int (xs (i9 + 2))]) (rest := []) (rv := rv) (wc := mW om am T σ) (wG := fun u => mW om am T (σ' u)) zT_k trivial Z Mz9 hm (cwV 2 hts gT_law_X6_paper rfl rfl rfl (by decide +kernel) ⟨Nat.le_trans (Nat.le_of_ble_eq_true rfl) hR.1, Nat.le_trans (Nat.le_of_ble_eq_true rfl) hR.2⟩) ism m1 m2 (fun u j hj => rfl) (fun _ => Nat.le_refl _) (va_recv Z.2.1 Mz9.1 (ci := 7) (q0 := 0) rfl rfl) rfl hl9.1 (Nat.le_of_ble_eq_true rfl) dL_law_1419 hroom rfl (fun u2 Hp9 lc9 Mz9 => ?_)
  have Mz9 : zM D A s.heap (mW om am T (σ' u2) ++ (ouW out T f' :: Wc' u1)) _ _ := zM_w (m3 _ rfl) Mz9
  refine lv_istore (lv' := [(6, .int (rv)), (5, .int (k)), (4, .int (nI (i9))), (0, .ref b), (1, .ref o), (2, .ref om), (3, .ref out)]) hx hb dL_law_1422 hl9 (by decide) rfl (fun sl9 hl9 => ?_)
  refine lv_aload_n hx hb dL_law_1424 rfl (lv_at hl9 5 rfl) ?_
  obtain ⟨ist, t1, t2, t3⟩ := mid_put3 (mW om am T (σ' u2)) (ouW out T f' :: Wc' u1)
  refine z_callVi (As := []) (rest := []) (rv := σ' u2 31 0) (wc := mW om am T (σ' u2)) (wc' := mW om am T (σ' u2)) Z Mz9 (cm_thrown l D T om am (σ' u2)) (cwV 0 hts gT_law_X6_thrown rfl rfl rfl (by decide +kernel) ⟨Nat.le_trans (Nat.le_of_ble_eq_true rfl) hR.1, Nat.le_trans (Nat.le_of_ble_eq_true rfl) hR.2⟩) ist t1 t2 (fun j hj => rfl) (Nat.le_refl _) (va_recv Z.2.1 Mz9.1 (ci := 7) (q0 := 0) rfl rfl) rfl hl9.1 (Nat.le_of_ble_eq_true rfl) dL_law_1425 hroom rfl (fun Hp9 lc9 Mz9 => ?_)
  have Mz9 : zM D A s.heap (mW om am T (σ' u2) ++ (ouW out T f' :: Wc' u1)) _ _ := zM_w (t3 _ rfl) Mz9
  refine zn_top (y := k) (h31 u2) ?_
  refine lv_iload hx hb dL_law_1428 (lv_at hl9 1 rfl) ?_
  refine lv_icmp_eq (tgt := 1435) hx hb dL_law_1430 (by decide) (fun _ => ?_) (fun h => absurd h (fun z => z rfl))
  refine lv_iload hx hb dL_law_1435 (lv_at hl9 1 rfl) ?_
  refine lv_if_ne (tgt := 1452) hx hb dL_law_1437 (by decide) (fun c1 => ?_) (fun c1 => ?_)
  ·
    refine lv_goto (tgt := 1784) hx hb dL_law_1452 (by decide) ?_
    exact kk u1 u2 _ _ _ Mz9 (lv_sub hl9 [2, 3, 4, 5, 6] rfl)
  ·
    refine lv_aload_n hx hb dL_law_1440 rfl (lv_at hl9 6 rfl) ?_
    refine lv_iconst (v := 0) hx hb dL_law_1441 (by decide) ?_
    refine va_lald hx hb Z.2.1 Mz9.1 26 2 (cA := T 2) (n := 1) (f := f') rfl rfl (i := 0) (by unfold vp_in; decide) dL_law_1442 ?_
    rw [hk c1]
    refine lv_iload hx hb dL_law_1443 (lv_at hl9 0 rfl) ?_
    refine lv_i2l (v := rv.toInt64) hx hb dL_law_1445 rfl ?_
    refine W.lcmp hx hb dL_law_1446 ?_
    rw [lgc]
    refine lv_if_eq (tgt := 1452) hx hb dL_law_1447 (by decide) (fun _ => ?_) (fun h => absurd h (by decide))
    refine lv_goto (tgt := 1784) hx hb dL_law_1452 (by decide) ?_
    exact kk u1 u2 _ _ _ Mz9 (lv_sub hl9 [2, 3, 4, 5, 6] rfl)
set_option maxHeartbeats 4000000 in
set_option maxRecDepth 100000 in
theorem lc_layer (Z : zC p s m args c cL_law 7 RL lw_tbl D T A) (hR : 11 ≤ R.frames ∧ 404 ≤ R.locals) (hXX : zX ea mi sa A s s.heap) (hX9 : va_X b L xs s s.heap) (hbl : b < s.heap.size) (hbA : ¬ A b) (hL2 : L < 2 ^ 31) (hi9 : i9 + 4 < L)
    (hw : ZIH l yL_layer wsL_layer rm (zX ea mi sa) D T (S := S1) (ouW out T f :: Wc) (fun u => ouW out T f' :: Wc' u) [.ref o, .int (xs (i9 + 1)), .int (xs (i9 + 2)), .ref out] k mc ms) (hrm : rm.cells = mc ∧ rm.slots = ms ∧ rm.frames + 1 ≤ 11 ∧ 8 + (5 + 11) + rm.locals ≤ 404) (hf : ∀ (u : S1) (j : Nat), j < (ouW out T f :: Wc).length → ((ouW out T f' :: Wc' u).map Prod.fst)[j]? = ((ouW out T f :: Wc).map Prod.fst)[j]?) (hlen : ∀ u : S1, (ouW out T f :: Wc).length ≤ (ouW out T f' :: Wc' u).length)
    (hm : ZM l yX6_layer wsX6_layer (zrm 2 43) D T (S := S2) (mW om am T σ) (fun u => mW om am T (σ' u)) [.ref om, .int (xs (i9 + 1)), .int (xs (i9 + 2))] rv) (h31 : ∀ u2 : S2, σ' u2 31 0 = k) (hk : k = 0 → f' (0 : Int32).toNatClampNeg = rv.toInt64) (hroom : cells + mc ≤ R.cells ∧ slots + ms ≤ R.slots) (Mz9 : zM D A s.heap (mW om am T σ ++ (ouW out T f :: Wc)) Hp9 lc9) (hl9 : lv_has sl9 7 [(4, .int (nI (i9))), (0, .ref b), (1, .ref o), (2, .ref om), (3, .ref out)])
    (kk : ∀ (u1 : S1) (u2 : S2) (Hp9 : Heap) (lc9 : List Loc) (sl9 : Array Slot), zM D A s.heap (mW om am T (σ' u2) ++ (ouW out T f' :: Wc' u1)) Hp9 lc9 → lv_has sl9 7 [(4, .int (nI (i9))), (0, .ref b), (1, .ref o), (2, .ref om), (3, .ref out)] → W p l e R s m args below meth c Hp9 lc9 (cells + mc) (slots + ms) Q (F0 m 1784 sl9 [])) :
    W p l e R s m args below meth c Hp9 lc9 cells slots Q (F0 m 1455 sl9 []) := by
  have hx := Z.1.1
  have hb := Z.1.2.1
  have hts := Z.1.2.2.2.2
  refine lv_aload_n hx hb dL_law_1455 rfl (lv_at hl9 2 rfl) ?_
  refine lv_aload_n hx hb dL_law_1456 rfl (lv_at hl9 1 rfl) ?_
  refine lv_iload hx hb dL_law_1457 (lv_at hl9 0 rfl) ?_
  refine lv_iconst (v := 1) hx hb dL_law_1459 (by decide) ?_
  refine zn_iadd (a := i9) (b := 1) hx hb dL_law_1460 ?_
  refine z_sld Z Mz9 hX9 hbl hbA (j := i9 + 1) (by omega) hL2 dL_law_1461 ?_
  refine lv_aload_n hx hb dL_law_1462 rfl (lv_at hl9 1 rfl) ?_
  refine lv_iload hx hb dL_law_1463 (lv_at hl9 0 rfl) ?_
  refine lv_iconst (v := 2) hx hb dL_law_1465 (by decide) ?_
  refine zn_iadd (a := i9) (b := 2) hx hb dL_law_1466 ?_
  refine z_sld Z Mz9 hX9 hbl hbA (j := i9 + 2) (by omega) hL2 dL_law_1467 ?_
  refine lv_aload_n hx hb dL_law_1468 rfl (lv_at hl9 4 rfl) ?_
  obtain ⟨isw, w1, w2, w3⟩ := mid_put4 (mW om am T σ) (ouW out T f :: Wc)
  refine z_callSWH (As := [.ref o, .int (xs (i9 + 1)), .int (xs (i9 + 2)), .ref out]) (rest := []) (wc := ouW out T f :: Wc) (zX_k ea mi sa) hXX Z Mz9 hw (vx_cwSW 4 hts gT_law_L_layer rfl hrm.1 hrm.2.1 (by decide +kernel) ⟨Nat.le_trans hrm.2.2.1 hR.1, Nat.le_trans hrm.2.2.2 hR.2⟩) isw w1 w2 hf hlen rfl hl9.1 (Nat.le_of_ble_eq_true rfl) dL_law_1469 hroom rfl (fun u1 Hp9 lc9 Mz9 => ?_)
  have Mz9 : zM D A s.heap (mW om am T σ ++ (ouW out T f' :: Wc' u1)) _ _ := zM_w (w3 _ (hlen u1)) Mz9
  refine lv_istore (lv' := [(5, .int (k)), (4, .int (nI (i9))), (0, .ref b), (1, .ref o), (2, .ref om), (3, .ref out)]) hx hb dL_law_1472 hl9 (by decide) rfl (fun sl9 hl9 => ?_)
  refine lv_aload_n hx hb dL_law_1474 rfl (lv_at hl9 4 rfl) ?_
  refine lv_aload_n hx hb dL_law_1475 rfl (lv_at hl9 2 rfl) ?_
  refine lv_iload hx hb dL_law_1476 (lv_at hl9 1 rfl) ?_
  refine lv_iconst (v := 1) hx hb dL_law_1478 (by decide) ?_
  refine zn_iadd (a := i9) (b := 1) hx hb dL_law_1479 ?_
  refine z_sld Z Mz9 hX9 hbl hbA (j := i9 + 1) (by omega) hL2 dL_law_1480 ?_
  refine lv_aload_n hx hb dL_law_1481 rfl (lv_at hl9 2 rfl) ?_
  refine lv_iload hx hb dL_law_1482 (lv_at hl9 1 rfl) ?_
  refine lv_iconst (v := 2) hx hb dL_law_1484 (by decide) ?_
  refine zn_iadd (a := i9) (b := 2) hx hb dL_law_1485 ?_
  refine z_sld Z Mz9 hX9 hbl hbA (j := i9 + 2) (by omega) hL2 dL_law_1486 ?_
  obtain ⟨ism, m1, m2, m3⟩ := mid_put3 (mW om am T σ) (ouW out T f' :: Wc' u1)
  refine z_callViP (As := [.int (xs (i9 + 1)), .int (xs (i9 + 2))]) (rest := []) (rv := rv) (wc := mW om am T σ) (wG := fun u => mW om am T (σ' u)) zT_k trivial Z Mz9 hm (cwV 2 hts gT_law_X6_layer rfl rfl rfl (by decide +kernel) ⟨Nat.le_trans (Nat.le_of_ble_eq_true rfl) hR.1, Nat.le_trans (Nat.le_of_ble_eq_true rfl) hR.2⟩) ism m1 m2 (fun u j hj => rfl) (fun _ => Nat.le_refl _) (va_recv Z.2.1 Mz9.1 (ci := 7) (q0 := 0) rfl rfl) rfl hl9.1 (Nat.le_of_ble_eq_true rfl) dL_law_1487 hroom rfl (fun u2 Hp9 lc9 Mz9 => ?_)
  have Mz9 : zM D A s.heap (mW om am T (σ' u2) ++ (ouW out T f' :: Wc' u1)) _ _ := zM_w (m3 _ rfl) Mz9
  refine lv_istore (lv' := [(6, .int (rv)), (5, .int (k)), (4, .int (nI (i9))), (0, .ref b), (1, .ref o), (2, .ref om), (3, .ref out)]) hx hb dL_law_1490 hl9 (by decide) rfl (fun sl9 hl9 => ?_)
  refine lv_aload_n hx hb dL_law_1492 rfl (lv_at hl9 5 rfl) ?_
  obtain ⟨ist, t1, t2, t3⟩ := mid_put3 (mW om am T (σ' u2)) (ouW out T f' :: Wc' u1)
  refine z_callVi (As := []) (rest := []) (rv := σ' u2 31 0) (wc := mW om am T (σ' u2)) (wc' := mW om am T (σ' u2)) Z Mz9 (cm_thrown l D T om am (σ' u2)) (cwV 0 hts gT_law_X6_thrown rfl rfl rfl (by decide +kernel) ⟨Nat.le_trans (Nat.le_of_ble_eq_true rfl) hR.1, Nat.le_trans (Nat.le_of_ble_eq_true rfl) hR.2⟩) ist t1 t2 (fun j hj => rfl) (Nat.le_refl _) (va_recv Z.2.1 Mz9.1 (ci := 7) (q0 := 0) rfl rfl) rfl hl9.1 (Nat.le_of_ble_eq_true rfl) dL_law_1493 hroom rfl (fun Hp9 lc9 Mz9 => ?_)
  have Mz9 : zM D A s.heap (mW om am T (σ' u2) ++ (ouW out T f' :: Wc' u1)) _ _ := zM_w (t3 _ rfl) Mz9
  refine zn_top (y := k) (h31 u2) ?_
  refine lv_iload hx hb dL_law_1496 (lv_at hl9 1 rfl) ?_
  refine lv_icmp_eq (tgt := 1503) hx hb dL_law_1498 (by decide) (fun _ => ?_) (fun h => absurd h (fun z => z rfl))
  refine lv_iload hx hb dL_law_1503 (lv_at hl9 1 rfl) ?_
  refine lv_if_ne (tgt := 1520) hx hb dL_law_1505 (by decide) (fun c1 => ?_) (fun c1 => ?_)
  ·
    refine lv_goto (tgt := 1784) hx hb dL_law_1520 (by decide) ?_
    exact kk u1 u2 _ _ _ Mz9 (lv_sub hl9 [2, 3, 4, 5, 6] rfl)
  ·
    refine lv_aload_n hx hb dL_law_1508 rfl (lv_at hl9 6 rfl) ?_
    refine lv_iconst (v := 0) hx hb dL_law_1509 (by decide) ?_
    refine va_lald hx hb Z.2.1 Mz9.1 26 2 (cA := T 2) (n := 1) (f := f') rfl rfl (i := 0) (by unfold vp_in; decide) dL_law_1510 ?_
    rw [hk c1]
    refine lv_iload hx hb dL_law_1511 (lv_at hl9 0 rfl) ?_
    refine lv_i2l (v := rv.toInt64) hx hb dL_law_1513 rfl ?_
    refine W.lcmp hx hb dL_law_1514 ?_
    rw [lgc]
    refine lv_if_eq (tgt := 1520) hx hb dL_law_1515 (by decide) (fun _ => ?_) (fun h => absurd h (by decide))
    refine lv_goto (tgt := 1784) hx hb dL_law_1520 (by decide) ?_
    exact kk u1 u2 _ _ _ Mz9 (lv_sub hl9 [2, 3, 4, 5, 6] rfl)
set_option maxHeartbeats 4000000 in
set_option maxRecDepth 100000 in
theorem lc_fewest (Z : zC p s m args c cL_law 7 RL lw_tbl D T A) (hR : 11 ≤ R.frames ∧ 404 ≤ R.locals) (hXX : zX ea mi sa A s s.heap) (hX9 : va_X b L xs s s.heap) (hbl : b < s.heap.size) (hbA : ¬ A b) (hL2 : L < 2 ^ 31) (hi9 : i9 + 4 < L)
    (hw : ZIH l yL_fewest wsL_fewest rm (zX ea mi sa) D T (S := S1) (ouW out T f :: Wc) (fun u => ouW out T f' :: Wc' u) [.ref o, .int (xs (i9 + 1)), .int (xs (i9 + 2)), .ref out] k mc ms) (hrm : rm.cells = mc ∧ rm.slots = ms ∧ rm.frames + 1 ≤ 11 ∧ 8 + (5 + 11) + rm.locals ≤ 404) (hf : ∀ (u : S1) (j : Nat), j < (ouW out T f :: Wc).length → ((ouW out T f' :: Wc' u).map Prod.fst)[j]? = ((ouW out T f :: Wc).map Prod.fst)[j]?) (hlen : ∀ u : S1, (ouW out T f :: Wc).length ≤ (ouW out T f' :: Wc' u).length)
    (hm : ZM l yX6_fewest wsX6_fewest (zrm 3 71) D T (S := S2) (mW om am T σ) (fun u => mW om am T (σ' u)) [.ref om, .int (xs (i9 + 1)), .int (xs (i9 + 2))] rv) (h31 : ∀ u2 : S2, σ' u2 31 0 = k) (hk : k = 0 → f' (0 : Int32).toNatClampNeg = rv.toInt64) (hroom : cells + mc ≤ R.cells ∧ slots + ms ≤ R.slots) (Mz9 : zM D A s.heap (mW om am T σ ++ (ouW out T f :: Wc)) Hp9 lc9) (hl9 : lv_has sl9 7 [(4, .int (nI (i9))), (0, .ref b), (1, .ref o), (2, .ref om), (3, .ref out)])
    (kk : ∀ (u1 : S1) (u2 : S2) (Hp9 : Heap) (lc9 : List Loc) (sl9 : Array Slot), zM D A s.heap (mW om am T (σ' u2) ++ (ouW out T f' :: Wc' u1)) Hp9 lc9 → lv_has sl9 7 [(4, .int (nI (i9))), (0, .ref b), (1, .ref o), (2, .ref om), (3, .ref out)] → W p l e R s m args below meth c Hp9 lc9 (cells + mc) (slots + ms) Q (F0 m 1784 sl9 [])) :
    W p l e R s m args below meth c Hp9 lc9 cells slots Q (F0 m 1523 sl9 []) := by
  have hx := Z.1.1
  have hb := Z.1.2.1
  have hts := Z.1.2.2.2.2
  refine lv_aload_n hx hb dL_law_1523 rfl (lv_at hl9 2 rfl) ?_
  refine lv_aload_n hx hb dL_law_1524 rfl (lv_at hl9 1 rfl) ?_
  refine lv_iload hx hb dL_law_1525 (lv_at hl9 0 rfl) ?_
  refine lv_iconst (v := 1) hx hb dL_law_1527 (by decide) ?_
  refine zn_iadd (a := i9) (b := 1) hx hb dL_law_1528 ?_
  refine z_sld Z Mz9 hX9 hbl hbA (j := i9 + 1) (by omega) hL2 dL_law_1529 ?_
  refine lv_aload_n hx hb dL_law_1530 rfl (lv_at hl9 1 rfl) ?_
  refine lv_iload hx hb dL_law_1531 (lv_at hl9 0 rfl) ?_
  refine lv_iconst (v := 2) hx hb dL_law_1533 (by decide) ?_
  refine zn_iadd (a := i9) (b := 2) hx hb dL_law_1534 ?_
  refine z_sld Z Mz9 hX9 hbl hbA (j := i9 + 2) (by omega) hL2 dL_law_1535 ?_
  refine lv_aload_n hx hb dL_law_1536 rfl (lv_at hl9 4 rfl) ?_
  obtain ⟨isw, w1, w2, w3⟩ := mid_put4 (mW om am T σ) (ouW out T f :: Wc)
  refine z_callSWH (As := [.ref o, .int (xs (i9 + 1)), .int (xs (i9 + 2)), .ref out]) (rest := []) (wc := ouW out T f :: Wc) (zX_k ea mi sa) hXX Z Mz9 hw (vx_cwSW 4 hts gT_law_L_fewest rfl hrm.1 hrm.2.1 (by decide +kernel) ⟨Nat.le_trans hrm.2.2.1 hR.1, Nat.le_trans hrm.2.2.2 hR.2⟩) isw w1 w2 hf hlen rfl hl9.1 (Nat.le_of_ble_eq_true rfl) dL_law_1537 hroom rfl (fun u1 Hp9 lc9 Mz9 => ?_)
  have Mz9 : zM D A s.heap (mW om am T σ ++ (ouW out T f' :: Wc' u1)) _ _ := zM_w (w3 _ (hlen u1)) Mz9
  refine lv_istore (lv' := [(5, .int (k)), (4, .int (nI (i9))), (0, .ref b), (1, .ref o), (2, .ref om), (3, .ref out)]) hx hb dL_law_1540 hl9 (by decide) rfl (fun sl9 hl9 => ?_)
  refine lv_aload_n hx hb dL_law_1542 rfl (lv_at hl9 4 rfl) ?_
  refine lv_aload_n hx hb dL_law_1543 rfl (lv_at hl9 2 rfl) ?_
  refine lv_iload hx hb dL_law_1544 (lv_at hl9 1 rfl) ?_
  refine lv_iconst (v := 1) hx hb dL_law_1546 (by decide) ?_
  refine zn_iadd (a := i9) (b := 1) hx hb dL_law_1547 ?_
  refine z_sld Z Mz9 hX9 hbl hbA (j := i9 + 1) (by omega) hL2 dL_law_1548 ?_
  refine lv_aload_n hx hb dL_law_1549 rfl (lv_at hl9 2 rfl) ?_
  refine lv_iload hx hb dL_law_1550 (lv_at hl9 1 rfl) ?_
  refine lv_iconst (v := 2) hx hb dL_law_1552 (by decide) ?_
  refine zn_iadd (a := i9) (b := 2) hx hb dL_law_1553 ?_
  refine z_sld Z Mz9 hX9 hbl hbA (j := i9 + 2) (by omega) hL2 dL_law_1554 ?_
  obtain ⟨ism, m1, m2, m3⟩ := mid_put3 (mW om am T σ) (ouW out T f' :: Wc' u1)
  refine z_callViP (As := [.int (xs (i9 + 1)), .int (xs (i9 + 2))]) (rest := []) (rv := rv) (wc := mW om am T σ) (wG := fun u => mW om am T (σ' u)) zT_k trivial Z Mz9 hm (cwV 2 hts gT_law_X6_fewest rfl rfl rfl (by decide +kernel) ⟨Nat.le_trans (Nat.le_of_ble_eq_true rfl) hR.1, Nat.le_trans (Nat.le_of_ble_eq_true rfl) hR.2⟩) ism m1 m2 (fun u j hj => rfl) (fun _ => Nat.le_refl _) (va_recv Z.2.1 Mz9.1 (ci := 7) (q0 := 0) rfl rfl) rfl hl9.1 (Nat.le_of_ble_eq_true rfl) dL_law_1555 hroom rfl (fun u2 Hp9 lc9 Mz9 => ?_)
  have Mz9 : zM D A s.heap (mW om am T (σ' u2) ++ (ouW out T f' :: Wc' u1)) _ _ := zM_w (m3 _ rfl) Mz9
  refine lv_istore (lv' := [(6, .int (rv)), (5, .int (k)), (4, .int (nI (i9))), (0, .ref b), (1, .ref o), (2, .ref om), (3, .ref out)]) hx hb dL_law_1558 hl9 (by decide) rfl (fun sl9 hl9 => ?_)
  refine lv_aload_n hx hb dL_law_1560 rfl (lv_at hl9 5 rfl) ?_
  obtain ⟨ist, t1, t2, t3⟩ := mid_put3 (mW om am T (σ' u2)) (ouW out T f' :: Wc' u1)
  refine z_callVi (As := []) (rest := []) (rv := σ' u2 31 0) (wc := mW om am T (σ' u2)) (wc' := mW om am T (σ' u2)) Z Mz9 (cm_thrown l D T om am (σ' u2)) (cwV 0 hts gT_law_X6_thrown rfl rfl rfl (by decide +kernel) ⟨Nat.le_trans (Nat.le_of_ble_eq_true rfl) hR.1, Nat.le_trans (Nat.le_of_ble_eq_true rfl) hR.2⟩) ist t1 t2 (fun j hj => rfl) (Nat.le_refl _) (va_recv Z.2.1 Mz9.1 (ci := 7) (q0 := 0) rfl rfl) rfl hl9.1 (Nat.le_of_ble_eq_true rfl) dL_law_1561 hroom rfl (fun Hp9 lc9 Mz9 => ?_)
  have Mz9 : zM D A s.heap (mW om am T (σ' u2) ++ (ouW out T f' :: Wc' u1)) _ _ := zM_w (t3 _ rfl) Mz9
  refine zn_top (y := k) (h31 u2) ?_
  refine lv_iload hx hb dL_law_1564 (lv_at hl9 1 rfl) ?_
  refine lv_icmp_eq (tgt := 1571) hx hb dL_law_1566 (by decide) (fun _ => ?_) (fun h => absurd h (fun z => z rfl))
  refine lv_iload hx hb dL_law_1571 (lv_at hl9 1 rfl) ?_
  refine lv_if_ne (tgt := 1588) hx hb dL_law_1573 (by decide) (fun c1 => ?_) (fun c1 => ?_)
  ·
    refine lv_goto (tgt := 1784) hx hb dL_law_1588 (by decide) ?_
    exact kk u1 u2 _ _ _ Mz9 (lv_sub hl9 [2, 3, 4, 5, 6] rfl)
  ·
    refine lv_aload_n hx hb dL_law_1576 rfl (lv_at hl9 6 rfl) ?_
    refine lv_iconst (v := 0) hx hb dL_law_1577 (by decide) ?_
    refine va_lald hx hb Z.2.1 Mz9.1 26 2 (cA := T 2) (n := 1) (f := f') rfl rfl (i := 0) (by unfold vp_in; decide) dL_law_1578 ?_
    rw [hk c1]
    refine lv_iload hx hb dL_law_1579 (lv_at hl9 0 rfl) ?_
    refine lv_i2l (v := rv.toInt64) hx hb dL_law_1581 rfl ?_
    refine W.lcmp hx hb dL_law_1582 ?_
    rw [lgc]
    refine lv_if_eq (tgt := 1588) hx hb dL_law_1583 (by decide) (fun _ => ?_) (fun h => absurd h (by decide))
    refine lv_goto (tgt := 1784) hx hb dL_law_1588 (by decide) ?_
    exact kk u1 u2 _ _ _ Mz9 (lv_sub hl9 [2, 3, 4, 5, 6] rfl)
set_option maxHeartbeats 4000000 in
set_option maxRecDepth 100000 in
theorem lc_first (Z : zC p s m args c cL_law 7 RL lw_tbl D T A) (hR : 11 ≤ R.frames ∧ 404 ≤ R.locals) (hXX : zX ea mi sa A s s.heap) (hX9 : va_X b L xs s s.heap) (hbl : b < s.heap.size) (hbA : ¬ A b) (hL2 : L < 2 ^ 31) (hi9 : i9 + 4 < L)
    (hw : ZIH l yL_first wsL_first rm (zX ea mi sa) D T (S := S1) (ouW out T f :: Wc) (fun u => ouW out T f' :: Wc' u) [.ref o, .int (xs (i9 + 1)), .int (xs (i9 + 2)), .ref out] k mc ms) (hrm : rm.cells = mc ∧ rm.slots = ms ∧ rm.frames + 1 ≤ 11 ∧ 8 + (5 + 11) + rm.locals ≤ 404) (hf : ∀ (u : S1) (j : Nat), j < (ouW out T f :: Wc).length → ((ouW out T f' :: Wc' u).map Prod.fst)[j]? = ((ouW out T f :: Wc).map Prod.fst)[j]?) (hlen : ∀ u : S1, (ouW out T f :: Wc).length ≤ (ouW out T f' :: Wc' u).length)
    (hm : ZM l yX6_first wsX6_first (zrm 3 71) D T (S := S2) (mW om am T σ) (fun u => mW om am T (σ' u)) [.ref om, .int (xs (i9 + 1)), .int (xs (i9 + 2))] rv) (h31 : ∀ u2 : S2, σ' u2 31 0 = k) (hk : k = 0 → f' (0 : Int32).toNatClampNeg = rv.toInt64) (hroom : cells + mc ≤ R.cells ∧ slots + ms ≤ R.slots) (Mz9 : zM D A s.heap (mW om am T σ ++ (ouW out T f :: Wc)) Hp9 lc9) (hl9 : lv_has sl9 7 [(4, .int (nI (i9))), (0, .ref b), (1, .ref o), (2, .ref om), (3, .ref out)])
    (kk : ∀ (u1 : S1) (u2 : S2) (Hp9 : Heap) (lc9 : List Loc) (sl9 : Array Slot), zM D A s.heap (mW om am T (σ' u2) ++ (ouW out T f' :: Wc' u1)) Hp9 lc9 → lv_has sl9 7 [(4, .int (nI (i9))), (0, .ref b), (1, .ref o), (2, .ref om), (3, .ref out)] → W p l e R s m args below meth c Hp9 lc9 (cells + mc) (slots + ms) Q (F0 m 1784 sl9 [])) :
    W p l e R s m args below meth c Hp9 lc9 cells slots Q (F0 m 1591 sl9 []) := by
  have hx := Z.1.1
  have hb := Z.1.2.1
  have hts := Z.1.2.2.2.2
  refine lv_aload_n hx hb dL_law_1591 rfl (lv_at hl9 2 rfl) ?_
  refine lv_aload_n hx hb dL_law_1592 rfl (lv_at hl9 1 rfl) ?_
  refine lv_iload hx hb dL_law_1593 (lv_at hl9 0 rfl) ?_
  refine lv_iconst (v := 1) hx hb dL_law_1595 (by decide) ?_
  refine zn_iadd (a := i9) (b := 1) hx hb dL_law_1596 ?_
  refine z_sld Z Mz9 hX9 hbl hbA (j := i9 + 1) (by omega) hL2 dL_law_1597 ?_
  refine lv_aload_n hx hb dL_law_1598 rfl (lv_at hl9 1 rfl) ?_
  refine lv_iload hx hb dL_law_1599 (lv_at hl9 0 rfl) ?_
  refine lv_iconst (v := 2) hx hb dL_law_1601 (by decide) ?_
  refine zn_iadd (a := i9) (b := 2) hx hb dL_law_1602 ?_
  refine z_sld Z Mz9 hX9 hbl hbA (j := i9 + 2) (by omega) hL2 dL_law_1603 ?_
  refine lv_aload_n hx hb dL_law_1604 rfl (lv_at hl9 4 rfl) ?_
  obtain ⟨isw, w1, w2, w3⟩ := mid_put4 (mW om am T σ) (ouW out T f :: Wc)
  refine z_callSWH (As := [.ref o, .int (xs (i9 + 1)), .int (xs (i9 + 2)), .ref out]) (rest := []) (wc := ouW out T f :: Wc) (zX_k ea mi sa) hXX Z Mz9 hw (vx_cwSW 4 hts gT_law_L_first rfl hrm.1 hrm.2.1 (by decide +kernel) ⟨Nat.le_trans hrm.2.2.1 hR.1, Nat.le_trans hrm.2.2.2 hR.2⟩) isw w1 w2 hf hlen rfl hl9.1 (Nat.le_of_ble_eq_true rfl) dL_law_1605 hroom rfl (fun u1 Hp9 lc9 Mz9 => ?_)
  have Mz9 : zM D A s.heap (mW om am T σ ++ (ouW out T f' :: Wc' u1)) _ _ := zM_w (w3 _ (hlen u1)) Mz9
  refine lv_istore (lv' := [(5, .int (k)), (4, .int (nI (i9))), (0, .ref b), (1, .ref o), (2, .ref om), (3, .ref out)]) hx hb dL_law_1608 hl9 (by decide) rfl (fun sl9 hl9 => ?_)
  refine lv_aload_n hx hb dL_law_1610 rfl (lv_at hl9 4 rfl) ?_
  refine lv_aload_n hx hb dL_law_1611 rfl (lv_at hl9 2 rfl) ?_
  refine lv_iload hx hb dL_law_1612 (lv_at hl9 1 rfl) ?_
  refine lv_iconst (v := 1) hx hb dL_law_1614 (by decide) ?_
  refine zn_iadd (a := i9) (b := 1) hx hb dL_law_1615 ?_
  refine z_sld Z Mz9 hX9 hbl hbA (j := i9 + 1) (by omega) hL2 dL_law_1616 ?_
  refine lv_aload_n hx hb dL_law_1617 rfl (lv_at hl9 2 rfl) ?_
  refine lv_iload hx hb dL_law_1618 (lv_at hl9 1 rfl) ?_
  refine lv_iconst (v := 2) hx hb dL_law_1620 (by decide) ?_
  refine zn_iadd (a := i9) (b := 2) hx hb dL_law_1621 ?_
  refine z_sld Z Mz9 hX9 hbl hbA (j := i9 + 2) (by omega) hL2 dL_law_1622 ?_
  obtain ⟨ism, m1, m2, m3⟩ := mid_put3 (mW om am T σ) (ouW out T f' :: Wc' u1)
  refine z_callViP (As := [.int (xs (i9 + 1)), .int (xs (i9 + 2))]) (rest := []) (rv := rv) (wc := mW om am T σ) (wG := fun u => mW om am T (σ' u)) zT_k trivial Z Mz9 hm (cwV 2 hts gT_law_X6_first rfl rfl rfl (by decide +kernel) ⟨Nat.le_trans (Nat.le_of_ble_eq_true rfl) hR.1, Nat.le_trans (Nat.le_of_ble_eq_true rfl) hR.2⟩) ism m1 m2 (fun u j hj => rfl) (fun _ => Nat.le_refl _) (va_recv Z.2.1 Mz9.1 (ci := 7) (q0 := 0) rfl rfl) rfl hl9.1 (Nat.le_of_ble_eq_true rfl) dL_law_1623 hroom rfl (fun u2 Hp9 lc9 Mz9 => ?_)
  have Mz9 : zM D A s.heap (mW om am T (σ' u2) ++ (ouW out T f' :: Wc' u1)) _ _ := zM_w (m3 _ rfl) Mz9
  refine lv_istore (lv' := [(6, .int (rv)), (5, .int (k)), (4, .int (nI (i9))), (0, .ref b), (1, .ref o), (2, .ref om), (3, .ref out)]) hx hb dL_law_1626 hl9 (by decide) rfl (fun sl9 hl9 => ?_)
  refine lv_aload_n hx hb dL_law_1628 rfl (lv_at hl9 5 rfl) ?_
  obtain ⟨ist, t1, t2, t3⟩ := mid_put3 (mW om am T (σ' u2)) (ouW out T f' :: Wc' u1)
  refine z_callVi (As := []) (rest := []) (rv := σ' u2 31 0) (wc := mW om am T (σ' u2)) (wc' := mW om am T (σ' u2)) Z Mz9 (cm_thrown l D T om am (σ' u2)) (cwV 0 hts gT_law_X6_thrown rfl rfl rfl (by decide +kernel) ⟨Nat.le_trans (Nat.le_of_ble_eq_true rfl) hR.1, Nat.le_trans (Nat.le_of_ble_eq_true rfl) hR.2⟩) ist t1 t2 (fun j hj => rfl) (Nat.le_refl _) (va_recv Z.2.1 Mz9.1 (ci := 7) (q0 := 0) rfl rfl) rfl hl9.1 (Nat.le_of_ble_eq_true rfl) dL_law_1629 hroom rfl (fun Hp9 lc9 Mz9 => ?_)
  have Mz9 : zM D A s.heap (mW om am T (σ' u2) ++ (ouW out T f' :: Wc' u1)) _ _ := zM_w (t3 _ rfl) Mz9
  refine zn_top (y := k) (h31 u2) ?_
  refine lv_iload hx hb dL_law_1632 (lv_at hl9 1 rfl) ?_
  refine lv_icmp_eq (tgt := 1639) hx hb dL_law_1634 (by decide) (fun _ => ?_) (fun h => absurd h (fun z => z rfl))
  refine lv_iload hx hb dL_law_1639 (lv_at hl9 1 rfl) ?_
  refine lv_if_ne (tgt := 1656) hx hb dL_law_1641 (by decide) (fun c1 => ?_) (fun c1 => ?_)
  ·
    refine lv_goto (tgt := 1784) hx hb dL_law_1656 (by decide) ?_
    exact kk u1 u2 _ _ _ Mz9 (lv_sub hl9 [2, 3, 4, 5, 6] rfl)
  ·
    refine lv_aload_n hx hb dL_law_1644 rfl (lv_at hl9 6 rfl) ?_
    refine lv_iconst (v := 0) hx hb dL_law_1645 (by decide) ?_
    refine va_lald hx hb Z.2.1 Mz9.1 26 2 (cA := T 2) (n := 1) (f := f') rfl rfl (i := 0) (by unfold vp_in; decide) dL_law_1646 ?_
    rw [hk c1]
    refine lv_iload hx hb dL_law_1647 (lv_at hl9 0 rfl) ?_
    refine lv_i2l (v := rv.toInt64) hx hb dL_law_1649 rfl ?_
    refine W.lcmp hx hb dL_law_1650 ?_
    rw [lgc]
    refine lv_if_eq (tgt := 1656) hx hb dL_law_1651 (by decide) (fun _ => ?_) (fun h => absurd h (by decide))
    refine lv_goto (tgt := 1784) hx hb dL_law_1656 (by decide) ?_
    exact kk u1 u2 _ _ _ Mz9 (lv_sub hl9 [2, 3, 4, 5, 6] rfl)
set_option maxHeartbeats 4000000 in
set_option maxRecDepth 100000 in
theorem lc_job (Z : zC p s m args c cL_law 7 RL lw_tbl D T A) (hR : 11 ≤ R.frames ∧ 404 ≤ R.locals) (hXX : zX ea mi sa A s s.heap) (hX9 : va_X b L xs s s.heap) (hbl : b < s.heap.size) (hbA : ¬ A b) (hL2 : L < 2 ^ 31) (hi9 : i9 + 4 < L)
    (hw : ZIH l yL_job wsL_job rm (zX ea mi sa) D T (S := S1) (ouW out T f :: Wc) (fun u => ouW out T f' :: Wc' u) [.ref o, .int (xs (i9 + 1)), .ref out] k mc ms) (hrm : rm.cells = mc ∧ rm.slots = ms ∧ rm.frames + 1 ≤ 11 ∧ 8 + (4 + 11) + rm.locals ≤ 404) (hf : ∀ (u : S1) (j : Nat), j < (ouW out T f :: Wc).length → ((ouW out T f' :: Wc' u).map Prod.fst)[j]? = ((ouW out T f :: Wc).map Prod.fst)[j]?) (hlen : ∀ u : S1, (ouW out T f :: Wc).length ≤ (ouW out T f' :: Wc' u).length)
    (hm : ZM l yX6_job wsX6_job (zrm 1 23) D T (S := S2) (mW om am T σ) (fun u => mW om am T (σ' u)) [.ref om, .int (xs (i9 + 1))] rv) (h31 : ∀ u2 : S2, σ' u2 31 0 = k) (hk : k = 0 → f' (0 : Int32).toNatClampNeg = rv.toInt64) (hroom : cells + mc ≤ R.cells ∧ slots + ms ≤ R.slots) (Mz9 : zM D A s.heap (mW om am T σ ++ (ouW out T f :: Wc)) Hp9 lc9) (hl9 : lv_has sl9 7 [(4, .int (nI (i9))), (0, .ref b), (1, .ref o), (2, .ref om), (3, .ref out)])
    (kk : ∀ (u1 : S1) (u2 : S2) (Hp9 : Heap) (lc9 : List Loc) (sl9 : Array Slot), zM D A s.heap (mW om am T (σ' u2) ++ (ouW out T f' :: Wc' u1)) Hp9 lc9 → lv_has sl9 7 [(4, .int (nI (i9))), (0, .ref b), (1, .ref o), (2, .ref om), (3, .ref out)] → W p l e R s m args below meth c Hp9 lc9 (cells + mc) (slots + ms) Q (F0 m 1784 sl9 [])) :
    W p l e R s m args below meth c Hp9 lc9 cells slots Q (F0 m 1659 sl9 []) := by
  have hx := Z.1.1
  have hb := Z.1.2.1
  have hts := Z.1.2.2.2.2
  refine lv_aload_n hx hb dL_law_1659 rfl (lv_at hl9 2 rfl) ?_
  refine lv_aload_n hx hb dL_law_1660 rfl (lv_at hl9 1 rfl) ?_
  refine lv_iload hx hb dL_law_1661 (lv_at hl9 0 rfl) ?_
  refine lv_iconst (v := 1) hx hb dL_law_1663 (by decide) ?_
  refine zn_iadd (a := i9) (b := 1) hx hb dL_law_1664 ?_
  refine z_sld Z Mz9 hX9 hbl hbA (j := i9 + 1) (by omega) hL2 dL_law_1665 ?_
  refine lv_aload_n hx hb dL_law_1666 rfl (lv_at hl9 4 rfl) ?_
  obtain ⟨isw, w1, w2, w3⟩ := mid_put4 (mW om am T σ) (ouW out T f :: Wc)
  refine z_callSWH (As := [.ref o, .int (xs (i9 + 1)), .ref out]) (rest := []) (wc := ouW out T f :: Wc) (zX_k ea mi sa) hXX Z Mz9 hw (vx_cwSW 3 hts gT_law_L_job rfl hrm.1 hrm.2.1 (by decide +kernel) ⟨Nat.le_trans hrm.2.2.1 hR.1, Nat.le_trans hrm.2.2.2 hR.2⟩) isw w1 w2 hf hlen rfl hl9.1 (Nat.le_of_ble_eq_true rfl) dL_law_1667 hroom rfl (fun u1 Hp9 lc9 Mz9 => ?_)
  have Mz9 : zM D A s.heap (mW om am T σ ++ (ouW out T f' :: Wc' u1)) _ _ := zM_w (w3 _ (hlen u1)) Mz9
  refine lv_istore (lv' := [(5, .int (k)), (4, .int (nI (i9))), (0, .ref b), (1, .ref o), (2, .ref om), (3, .ref out)]) hx hb dL_law_1670 hl9 (by decide) rfl (fun sl9 hl9 => ?_)
  refine lv_aload_n hx hb dL_law_1672 rfl (lv_at hl9 4 rfl) ?_
  refine lv_aload_n hx hb dL_law_1673 rfl (lv_at hl9 2 rfl) ?_
  refine lv_iload hx hb dL_law_1674 (lv_at hl9 1 rfl) ?_
  refine lv_iconst (v := 1) hx hb dL_law_1676 (by decide) ?_
  refine zn_iadd (a := i9) (b := 1) hx hb dL_law_1677 ?_
  refine z_sld Z Mz9 hX9 hbl hbA (j := i9 + 1) (by omega) hL2 dL_law_1678 ?_
  obtain ⟨ism, m1, m2, m3⟩ := mid_put3 (mW om am T σ) (ouW out T f' :: Wc' u1)
  refine z_callViP (As := [.int (xs (i9 + 1))]) (rest := []) (rv := rv) (wc := mW om am T σ) (wG := fun u => mW om am T (σ' u)) zT_k trivial Z Mz9 hm (cwV 1 hts gT_law_X6_job rfl rfl rfl (by decide +kernel) ⟨Nat.le_trans (Nat.le_of_ble_eq_true rfl) hR.1, Nat.le_trans (Nat.le_of_ble_eq_true rfl) hR.2⟩) ism m1 m2 (fun u j hj => rfl) (fun _ => Nat.le_refl _) (va_recv Z.2.1 Mz9.1 (ci := 7) (q0 := 0) rfl rfl) rfl hl9.1 (Nat.le_of_ble_eq_true rfl) dL_law_1679 hroom rfl (fun u2 Hp9 lc9 Mz9 => ?_)
  have Mz9 : zM D A s.heap (mW om am T (σ' u2) ++ (ouW out T f' :: Wc' u1)) _ _ := zM_w (m3 _ rfl) Mz9
  refine lv_istore (lv' := [(6, .int (rv)), (5, .int (k)), (4, .int (nI (i9))), (0, .ref b), (1, .ref o), (2, .ref om), (3, .ref out)]) hx hb dL_law_1682 hl9 (by decide) rfl (fun sl9 hl9 => ?_)
  refine lv_aload_n hx hb dL_law_1684 rfl (lv_at hl9 5 rfl) ?_
  obtain ⟨ist, t1, t2, t3⟩ := mid_put3 (mW om am T (σ' u2)) (ouW out T f' :: Wc' u1)
  refine z_callVi (As := []) (rest := []) (rv := σ' u2 31 0) (wc := mW om am T (σ' u2)) (wc' := mW om am T (σ' u2)) Z Mz9 (cm_thrown l D T om am (σ' u2)) (cwV 0 hts gT_law_X6_thrown rfl rfl rfl (by decide +kernel) ⟨Nat.le_trans (Nat.le_of_ble_eq_true rfl) hR.1, Nat.le_trans (Nat.le_of_ble_eq_true rfl) hR.2⟩) ist t1 t2 (fun j hj => rfl) (Nat.le_refl _) (va_recv Z.2.1 Mz9.1 (ci := 7) (q0 := 0) rfl rfl) rfl hl9.1 (Nat.le_of_ble_eq_true rfl) dL_law_1685 hroom rfl (fun Hp9 lc9 Mz9 => ?_)
  have Mz9 : zM D A s.heap (mW om am T (σ' u2) ++ (ouW out T f' :: Wc' u1)) _ _ := zM_w (t3 _ rfl) Mz9
  refine zn_top (y := k) (h31 u2) ?_
  refine lv_iload hx hb dL_law_1688 (lv_at hl9 1 rfl) ?_
  refine lv_icmp_eq (tgt := 1695) hx hb dL_law_1690 (by decide) (fun _ => ?_) (fun h => absurd h (fun z => z rfl))
  refine lv_iload hx hb dL_law_1695 (lv_at hl9 1 rfl) ?_
  refine lv_if_ne (tgt := 1712) hx hb dL_law_1697 (by decide) (fun c1 => ?_) (fun c1 => ?_)
  ·
    refine lv_goto (tgt := 1784) hx hb dL_law_1712 (by decide) ?_
    exact kk u1 u2 _ _ _ Mz9 (lv_sub hl9 [2, 3, 4, 5, 6] rfl)
  ·
    refine lv_aload_n hx hb dL_law_1700 rfl (lv_at hl9 6 rfl) ?_
    refine lv_iconst (v := 0) hx hb dL_law_1701 (by decide) ?_
    refine va_lald hx hb Z.2.1 Mz9.1 26 2 (cA := T 2) (n := 1) (f := f') rfl rfl (i := 0) (by unfold vp_in; decide) dL_law_1702 ?_
    rw [hk c1]
    refine lv_iload hx hb dL_law_1703 (lv_at hl9 0 rfl) ?_
    refine lv_i2l (v := rv.toInt64) hx hb dL_law_1705 rfl ?_
    refine W.lcmp hx hb dL_law_1706 ?_
    rw [lgc]
    refine lv_if_eq (tgt := 1712) hx hb dL_law_1707 (by decide) (fun _ => ?_) (fun h => absurd h (by decide))
    refine lv_goto (tgt := 1784) hx hb dL_law_1712 (by decide) ?_
    exact kk u1 u2 _ _ _ Mz9 (lv_sub hl9 [2, 3, 4, 5, 6] rfl)
set_option maxHeartbeats 4000000 in
set_option maxRecDepth 100000 in
theorem lc_planned (Z : zC p s m args c cL_law 7 RL lw_tbl D T A) (hR : 11 ≤ R.frames ∧ 404 ≤ R.locals) (hXX : zX ea mi sa A s s.heap) (hX9 : va_X b L xs s s.heap) (hbl : b < s.heap.size) (hbA : ¬ A b) (hL2 : L < 2 ^ 31) (hi9 : i9 + 4 < L)
    (hw : ZIH l yL_planned wsL_planned rm (zX ea mi sa) D T (S := S1) (ouW out T f :: Wc) (fun u => ouW out T f' :: Wc' u) [.ref o, .int (xs (i9 + 1)), .ref out] k mc ms) (hrm : rm.cells = mc ∧ rm.slots = ms ∧ rm.frames + 1 ≤ 11 ∧ 8 + (4 + 11) + rm.locals ≤ 404) (hf : ∀ (u : S1) (j : Nat), j < (ouW out T f :: Wc).length → ((ouW out T f' :: Wc' u).map Prod.fst)[j]? = ((ouW out T f :: Wc).map Prod.fst)[j]?) (hlen : ∀ u : S1, (ouW out T f :: Wc).length ≤ (ouW out T f' :: Wc' u).length)
    (hm : ZM l yX6_planned wsX6_planned (zrm 3 62) D T (S := S2) (mW om am T σ) (fun u => mW om am T (σ' u)) [.ref om, .int (xs (i9 + 1))] rv) (h31 : ∀ u2 : S2, σ' u2 31 0 = k) (hk : k = 0 → f' (0 : Int32).toNatClampNeg = rv.toInt64) (hroom : cells + mc ≤ R.cells ∧ slots + ms ≤ R.slots) (Mz9 : zM D A s.heap (mW om am T σ ++ (ouW out T f :: Wc)) Hp9 lc9) (hl9 : lv_has sl9 7 [(4, .int (nI (i9))), (0, .ref b), (1, .ref o), (2, .ref om), (3, .ref out)])
    (kk : ∀ (u1 : S1) (u2 : S2) (Hp9 : Heap) (lc9 : List Loc) (sl9 : Array Slot), zM D A s.heap (mW om am T (σ' u2) ++ (ouW out T f' :: Wc' u1)) Hp9 lc9 → lv_has sl9 7 [(4, .int (nI (i9))), (0, .ref b), (1, .ref o), (2, .ref om), (3, .ref out)] → W p l e R s m args below meth c Hp9 lc9 (cells + mc) (slots + ms) Q (F0 m 1784 sl9 [])) :
    W p l e R s m args below meth c Hp9 lc9 cells slots Q (F0 m 1715 sl9 []) := by
  have hx := Z.1.1
  have hb := Z.1.2.1
  have hts := Z.1.2.2.2.2
  refine lv_aload_n hx hb dL_law_1715 rfl (lv_at hl9 2 rfl) ?_
  refine lv_aload_n hx hb dL_law_1716 rfl (lv_at hl9 1 rfl) ?_
  refine lv_iload hx hb dL_law_1717 (lv_at hl9 0 rfl) ?_
  refine lv_iconst (v := 1) hx hb dL_law_1719 (by decide) ?_
  refine zn_iadd (a := i9) (b := 1) hx hb dL_law_1720 ?_
  refine z_sld Z Mz9 hX9 hbl hbA (j := i9 + 1) (by omega) hL2 dL_law_1721 ?_
  refine lv_aload_n hx hb dL_law_1722 rfl (lv_at hl9 4 rfl) ?_
  obtain ⟨isw, w1, w2, w3⟩ := mid_put4 (mW om am T σ) (ouW out T f :: Wc)
  refine z_callSWH (As := [.ref o, .int (xs (i9 + 1)), .ref out]) (rest := []) (wc := ouW out T f :: Wc) (zX_k ea mi sa) hXX Z Mz9 hw (vx_cwSW 3 hts gT_law_L_planned rfl hrm.1 hrm.2.1 (by decide +kernel) ⟨Nat.le_trans hrm.2.2.1 hR.1, Nat.le_trans hrm.2.2.2 hR.2⟩) isw w1 w2 hf hlen rfl hl9.1 (Nat.le_of_ble_eq_true rfl) dL_law_1723 hroom rfl (fun u1 Hp9 lc9 Mz9 => ?_)
  have Mz9 : zM D A s.heap (mW om am T σ ++ (ouW out T f' :: Wc' u1)) _ _ := zM_w (w3 _ (hlen u1)) Mz9
  refine lv_istore (lv' := [(5, .int (k)), (4, .int (nI (i9))), (0, .ref b), (1, .ref o), (2, .ref om), (3, .ref out)]) hx hb dL_law_1726 hl9 (by decide) rfl (fun sl9 hl9 => ?_)
  refine lv_aload_n hx hb dL_law_1728 rfl (lv_at hl9 4 rfl) ?_
  refine lv_aload_n hx hb dL_law_1729 rfl (lv_at hl9 2 rfl) ?_
  refine lv_iload hx hb dL_law_1730 (lv_at hl9 1 rfl) ?_
  refine lv_iconst (v := 1) hx hb dL_law_1732 (by decide) ?_
  refine zn_iadd (a := i9) (b := 1) hx hb dL_law_1733 ?_
  refine z_sld Z Mz9 hX9 hbl hbA (j := i9 + 1) (by omega) hL2 dL_law_1734 ?_
  obtain ⟨ism, m1, m2, m3⟩ := mid_put3 (mW om am T σ) (ouW out T f' :: Wc' u1)
  refine z_callViP (As := [.int (xs (i9 + 1))]) (rest := []) (rv := rv) (wc := mW om am T σ) (wG := fun u => mW om am T (σ' u)) zT_k trivial Z Mz9 hm (cwV 1 hts gT_law_X6_planned rfl rfl rfl (by decide +kernel) ⟨Nat.le_trans (Nat.le_of_ble_eq_true rfl) hR.1, Nat.le_trans (Nat.le_of_ble_eq_true rfl) hR.2⟩) ism m1 m2 (fun u j hj => rfl) (fun _ => Nat.le_refl _) (va_recv Z.2.1 Mz9.1 (ci := 7) (q0 := 0) rfl rfl) rfl hl9.1 (Nat.le_of_ble_eq_true rfl) dL_law_1735 hroom rfl (fun u2 Hp9 lc9 Mz9 => ?_)
  have Mz9 : zM D A s.heap (mW om am T (σ' u2) ++ (ouW out T f' :: Wc' u1)) _ _ := zM_w (m3 _ rfl) Mz9
  refine lv_istore (lv' := [(6, .int (rv)), (5, .int (k)), (4, .int (nI (i9))), (0, .ref b), (1, .ref o), (2, .ref om), (3, .ref out)]) hx hb dL_law_1738 hl9 (by decide) rfl (fun sl9 hl9 => ?_)
  refine lv_aload_n hx hb dL_law_1740 rfl (lv_at hl9 5 rfl) ?_
  obtain ⟨ist, t1, t2, t3⟩ := mid_put3 (mW om am T (σ' u2)) (ouW out T f' :: Wc' u1)
  refine z_callVi (As := []) (rest := []) (rv := σ' u2 31 0) (wc := mW om am T (σ' u2)) (wc' := mW om am T (σ' u2)) Z Mz9 (cm_thrown l D T om am (σ' u2)) (cwV 0 hts gT_law_X6_thrown rfl rfl rfl (by decide +kernel) ⟨Nat.le_trans (Nat.le_of_ble_eq_true rfl) hR.1, Nat.le_trans (Nat.le_of_ble_eq_true rfl) hR.2⟩) ist t1 t2 (fun j hj => rfl) (Nat.le_refl _) (va_recv Z.2.1 Mz9.1 (ci := 7) (q0 := 0) rfl rfl) rfl hl9.1 (Nat.le_of_ble_eq_true rfl) dL_law_1741 hroom rfl (fun Hp9 lc9 Mz9 => ?_)
  have Mz9 : zM D A s.heap (mW om am T (σ' u2) ++ (ouW out T f' :: Wc' u1)) _ _ := zM_w (t3 _ rfl) Mz9
  refine zn_top (y := k) (h31 u2) ?_
  refine lv_iload hx hb dL_law_1744 (lv_at hl9 1 rfl) ?_
  refine lv_icmp_eq (tgt := 1751) hx hb dL_law_1746 (by decide) (fun _ => ?_) (fun h => absurd h (fun z => z rfl))
  refine lv_iload hx hb dL_law_1751 (lv_at hl9 1 rfl) ?_
  refine lv_if_ne (tgt := 1768) hx hb dL_law_1753 (by decide) (fun c1 => ?_) (fun c1 => ?_)
  ·
    refine lv_goto (tgt := 1784) hx hb dL_law_1768 (by decide) ?_
    exact kk u1 u2 _ _ _ Mz9 (lv_sub hl9 [2, 3, 4, 5, 6] rfl)
  ·
    refine lv_aload_n hx hb dL_law_1756 rfl (lv_at hl9 6 rfl) ?_
    refine lv_iconst (v := 0) hx hb dL_law_1757 (by decide) ?_
    refine va_lald hx hb Z.2.1 Mz9.1 26 2 (cA := T 2) (n := 1) (f := f') rfl rfl (i := 0) (by unfold vp_in; decide) dL_law_1758 ?_
    rw [hk c1]
    refine lv_iload hx hb dL_law_1759 (lv_at hl9 0 rfl) ?_
    refine lv_i2l (v := rv.toInt64) hx hb dL_law_1761 rfl ?_
    refine W.lcmp hx hb dL_law_1762 ?_
    rw [lgc]
    refine lv_if_eq (tgt := 1768) hx hb dL_law_1763 (by decide) (fun _ => ?_) (fun h => absurd h (by decide))
    refine lv_goto (tgt := 1784) hx hb dL_law_1768 (by decide) ?_
    exact kk u1 u2 _ _ _ Mz9 (lv_sub hl9 [2, 3, 4, 5, 6] rfl)
set_option maxHeartbeats 4000000 in
set_option maxRecDepth 100000 in
theorem lc_run (Z : zC p s m args c cL_law 7 RL lw_tbl D T A) (hR : 11 ≤ R.frames ∧ 404 ≤ R.locals) (hXX : zX ea mi sa A s s.heap) (hX9 : va_X b L xs s s.heap) (hbl : b < s.heap.size) (hbA : ¬ A b) (hL2 : L < 2 ^ 31) (hi9 : i9 + 4 < L)
    (hw : ZIH l yX5_run wsX5_run rm (zX ea mi sa) D T (S := S1) (ouW out T f :: Wc) (fun u => ouW out T f' :: Wc' u) [.ref o] k mc ms) {q0 : Nat} {vs : List Value} (hO : (mW om am T σ ++ (ouW out T f :: Wc))[q0]? = some (o, .inr (6, vs))) (hrm : rm.cells = mc ∧ rm.slots = ms ∧ rm.frames + 1 ≤ 11 ∧ 8 + (1 + 11) + rm.locals ≤ 404) (hf : ∀ (u : S1) (j : Nat), j < (ouW out T f :: Wc).length → ((ouW out T f' :: Wc' u).map Prod.fst)[j]? = ((ouW out T f :: Wc).map Prod.fst)[j]?) (hlen : ∀ u : S1, (ouW out T f :: Wc).length ≤ (ouW out T f' :: Wc' u).length)
    (hm : ZM l yX6_run wsX6_run (zrm 3 62) D T (S := S2) (mW om am T σ) (fun u => mW om am T (σ' u)) [.ref om] rv) (heq : k = rv) (hroom : cells + mc ≤ R.cells ∧ slots + ms ≤ R.slots) (Mz9 : zM D A s.heap (mW om am T σ ++ (ouW out T f :: Wc)) Hp9 lc9) (hl9 : lv_has sl9 7 [(4, .int (nI (i9))), (0, .ref b), (1, .ref o), (2, .ref om), (3, .ref out)])
    (kk : ∀ (u1 : S1) (u2 : S2) (Hp9 : Heap) (lc9 : List Loc) (sl9 : Array Slot), zM D A s.heap (mW om am T (σ' u2) ++ (ouW out T f' :: Wc' u1)) Hp9 lc9 → lv_has sl9 7 [(4, .int (nI (i9))), (0, .ref b), (1, .ref o), (2, .ref om), (3, .ref out)] → W p l e R s m args below meth c Hp9 lc9 (cells + mc) (slots + ms) Q (F0 m 1784 sl9 [])) :
    W p l e R s m args below meth c Hp9 lc9 cells slots Q (F0 m 1771 sl9 []) := by
  have hx := Z.1.1
  have hb := Z.1.2.1
  have hts := Z.1.2.2.2.2
  refine lv_aload_n hx hb dL_law_1771 rfl (lv_at hl9 2 rfl) ?_
  obtain ⟨isw, w1, w2, w3⟩ := mid_put4 (mW om am T σ) (ouW out T f :: Wc)
  refine z_callViH (As := []) (rest := []) (wc := ouW out T f :: Wc) (zX_k ea mi sa) hXX Z Mz9 hw (cwV 0 hts gT_law_X5_run rfl hrm.1 hrm.2.1 (by decide +kernel) ⟨Nat.le_trans hrm.2.2.1 hR.1, Nat.le_trans hrm.2.2.2 hR.2⟩) isw w1 w2 hf hlen (va_recv Z.2.1 Mz9.1 (ci := 6) (q0 := q0) rfl hO) rfl hl9.1 (Nat.le_of_ble_eq_true rfl) dL_law_1772 hroom rfl (fun u1 Hp9 lc9 Mz9 => ?_)
  have Mz9 : zM D A s.heap (mW om am T σ ++ (ouW out T f' :: Wc' u1)) _ _ := zM_w (w3 _ (hlen u1)) Mz9
  refine lv_aload_n hx hb dL_law_1775 rfl (lv_at hl9 3 rfl) ?_
  obtain ⟨ism, m1, m2, m3⟩ := mid_put3 (mW om am T σ) (ouW out T f' :: Wc' u1)
  refine z_callViP (As := []) (rest := [.int (k)]) (rv := rv) (wc := mW om am T σ) (wG := fun u => mW om am T (σ' u)) zT_k trivial Z Mz9 hm (cwV 0 hts gT_law_X6_run rfl rfl rfl (by decide +kernel) ⟨Nat.le_trans (Nat.le_of_ble_eq_true rfl) hR.1, Nat.le_trans (Nat.le_of_ble_eq_true rfl) hR.2⟩) ism m1 m2 (fun u j hj => rfl) (fun _ => Nat.le_refl _) (va_recv Z.2.1 Mz9.1 (ci := 7) (q0 := 0) rfl rfl) rfl hl9.1 (Nat.le_of_ble_eq_true rfl) dL_law_1776 hroom rfl (fun u2 Hp9 lc9 Mz9 => ?_)
  have Mz9 : zM D A s.heap (mW om am T (σ' u2) ++ (ouW out T f' :: Wc' u1)) _ _ := zM_w (m3 _ rfl) Mz9
  refine lv_icmp_eq (tgt := 1784) hx hb dL_law_1779 (by decide) (fun _ => ?_) (fun h => absurd h (fun z => z heq))
  exact kk u1 u2 _ _ _ Mz9 (lv_sub hl9 [0, 1, 2, 3, 4] rfl)
end LAWC
