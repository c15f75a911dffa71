/-! ===== laid by program ===== -/
/-! ===== the law, case by case ===== -/
section LAWC
variable {p : Program} {l : Launch} {e : Env} {R : Room} {s : State} {m : MethodId} {args : Array Value} {below : List Frame} {meth : Method} {c : Code} {Hp9 : Heap} {lc9 : List Loc} {cells slots : Nat} {Q : State → Prop}
variable {D : va_G} {T : Nat → ClassId} {A : Nat → Prop} {sl9 : Array Slot} {ea mi : Nat} {sa : Nat → Nat} {b L o om out i9 : Nat} {am : Nat → Nat} {xs : Nat → Int32} {f f' : Nat → Int64} {S1 S2 : Type} {Wc : va_W} {Wc' : S1 → va_W} {k rv : Int32} {σ : Nat → Nat → Int32} {σ' : S2 → Nat → Nat → Int32} {rm : Room} {mc ms : Nat}
set_option maxHeartbeats 4000000 in
set_option maxRecDepth 100000 in
theorem lc_steel (Z : zC p s m args c cL_law 7 RL lw_tbl D T A) (hR : 11 ≤ R.frames ∧ 404 ≤ R.locals) (hXX : zX ea mi sa A s s.heap) (hX9 : va_X b L xs s s.heap) (hbl : b < s.heap.size) (hbA : ¬ A b) (hL2 : L < 2 ^ 31) (hi9 : i9 + 4 < L)
    {u2 : S2} (hw : ZIH l yL_steel wsL_steel rm (zX ea mi sa) D T (S := S1) (ouW out T f :: Wc) (fun u => ouW out T f' :: Wc' u) [.ref o, .int (xs (i9 + 1)), .int (xs (i9 + 2)), .int (xs (i9 + 3)), .int (xs (i9 + 4))] k mc ms) (hrm : rm.cells = mc ∧ rm.slots = ms ∧ rm.frames + 1 ≤ 11 ∧ 8 + (6 + 11) + rm.locals ≤ 404) (hf : ∀ (u : S1) (j : Nat), j < (ouW out T f :: Wc).length → ((ouW out T f' :: Wc' u).map Prod.fst)[j]? = ((ouW out T f :: Wc).map Prod.fst)[j]?) (hlen : ∀ u : S1, (ouW out T f :: Wc).length ≤ (ouW out T f' :: Wc' u).length)
    (hm : ZV l yX6_steel wsX6_steel (zrm 1 23) D T (mW om am T σ) (mW om am T (σ' u2)) [.ref om, .int (xs (i9 + 1)), .int (xs (i9 + 2)), .int (xs (i9 + 3)), .int (xs (i9 + 4))] 0 0) (h31 : σ' u2 31 0 = k) (hroom : cells + mc ≤ R.cells ∧ slots + ms ≤ R.slots) (Mz9 : zM D A s.heap (mW om am T σ ++ (ouW out T f :: Wc)) Hp9 lc9) (hl9 : lv_has sl9 7 [(4, .int (nI (i9))), (0, .ref b), (1, .ref o), (2, .ref om), (3, .ref out)])
    (kk : ∀ (u1 : S1) (Hp9 : Heap) (lc9 : List Loc) (sl9 : Array Slot), zM D A s.heap (mW om am T (σ' u2) ++ (ouW out T f' :: Wc' u1)) Hp9 lc9 → lv_has sl9 7 [(4, .int (nI (i9))), (0, .ref b), (1, .ref o), (2, .ref om), (3, .ref out)] → W p l e R s m args below meth c Hp9 lc9 (cells + mc) (slots + ms) Q (F0 m 1784 sl9 [])) :
    W p l e R s m args below meth c Hp9 lc9 cells slots Q (F0 m 152 sl9 []) := by
  have hx := Z.1.1
  have hb := Z.1.2.1
  have hts := Z.1.2.2.2.2
  refine lv_aload_n hx hb dL_law_152 rfl (lv_at hl9 2 rfl) ?_
  refine lv_aload_n hx hb dL_law_153 rfl (lv_at hl9 1 rfl) ?_
  refine lv_iload hx hb dL_law_154 (lv_at hl9 0 rfl) ?_
  refine lv_iconst (v := 1) hx hb dL_law_156 (by decide) ?_
  refine zn_iadd (a := i9) (b := 1) hx hb dL_law_157 ?_
  refine z_sld Z Mz9 hX9 hbl hbA (j := i9 + 1) (by omega) hL2 dL_law_158 ?_
  refine lv_aload_n hx hb dL_law_159 rfl (lv_at hl9 1 rfl) ?_
  refine lv_iload hx hb dL_law_160 (lv_at hl9 0 rfl) ?_
  refine lv_iconst (v := 2) hx hb dL_law_162 (by decide) ?_
  refine zn_iadd (a := i9) (b := 2) hx hb dL_law_163 ?_
  refine z_sld Z Mz9 hX9 hbl hbA (j := i9 + 2) (by omega) hL2 dL_law_164 ?_
  refine lv_aload_n hx hb dL_law_165 rfl (lv_at hl9 1 rfl) ?_
  refine lv_iload hx hb dL_law_166 (lv_at hl9 0 rfl) ?_
  refine lv_iconst (v := 3) hx hb dL_law_168 (by decide) ?_
  refine zn_iadd (a := i9) (b := 3) hx hb dL_law_169 ?_
  refine z_sld Z Mz9 hX9 hbl hbA (j := i9 + 3) (by omega) hL2 dL_law_170 ?_
  refine lv_aload_n hx hb dL_law_171 rfl (lv_at hl9 1 rfl) ?_
  refine lv_iload hx hb dL_law_172 (lv_at hl9 0 rfl) ?_
  refine lv_iconst (v := 4) hx hb dL_law_174 (by decide) ?_
  refine zn_iadd (a := i9) (b := 4) hx hb dL_law_175 ?_
  refine z_sld Z Mz9 hX9 hbl hbA (j := i9 + 4) (by omega) hL2 dL_law_176 ?_
  obtain ⟨isw, w1, w2, w3⟩ := mid_put4 (mW om am T σ) (ouW out T f :: Wc)
  refine z_callSWH (As := [.ref o, .int (xs (i9 + 1)), .int (xs (i9 + 2)), .int (xs (i9 + 3)), .int (xs (i9 + 4))]) (rest := []) (wc := ouW out T f :: Wc) (zX_k ea mi sa) hXX Z Mz9 hw (vx_cwSW 5 hts gT_law_L_steel rfl hrm.1 hrm.2.1 (by decide +kernel) ⟨Nat.le_trans hrm.2.2.1 hR.1, Nat.le_trans hrm.2.2.2 hR.2⟩) isw w1 w2 hf hlen rfl hl9.1 (Nat.le_of_ble_eq_true rfl) dL_law_177 hroom rfl (fun u1 Hp9 lc9 Mz9 => ?_)
  have Mz9 : zM D A s.heap (mW om am T σ ++ (ouW out T f' :: Wc' u1)) _ _ := zM_w (w3 _ (hlen u1)) Mz9
  refine lv_istore (lv' := [(5, .int (k)), (4, .int (nI (i9))), (0, .ref b), (1, .ref o), (2, .ref om), (3, .ref out)]) hx hb dL_law_180 hl9 (by decide) rfl (fun sl9 hl9 => ?_)
  refine lv_aload_n hx hb dL_law_182 rfl (lv_at hl9 4 rfl) ?_
  refine lv_aload_n hx hb dL_law_183 rfl (lv_at hl9 2 rfl) ?_
  refine lv_iload hx hb dL_law_184 (lv_at hl9 1 rfl) ?_
  refine lv_iconst (v := 1) hx hb dL_law_186 (by decide) ?_
  refine zn_iadd (a := i9) (b := 1) hx hb dL_law_187 ?_
  refine z_sld Z Mz9 hX9 hbl hbA (j := i9 + 1) (by omega) hL2 dL_law_188 ?_
  refine lv_aload_n hx hb dL_law_189 rfl (lv_at hl9 2 rfl) ?_
  refine lv_iload hx hb dL_law_190 (lv_at hl9 1 rfl) ?_
  refine lv_iconst (v := 2) hx hb dL_law_192 (by decide) ?_
  refine zn_iadd (a := i9) (b := 2) hx hb dL_law_193 ?_
  refine z_sld Z Mz9 hX9 hbl hbA (j := i9 + 2) (by omega) hL2 dL_law_194 ?_
  refine lv_aload_n hx hb dL_law_195 rfl (lv_at hl9 2 rfl) ?_
  refine lv_iload hx hb dL_law_196 (lv_at hl9 1 rfl) ?_
  refine lv_iconst (v := 3) hx hb dL_law_198 (by decide) ?_
  refine zn_iadd (a := i9) (b := 3) hx hb dL_law_199 ?_
  refine z_sld Z Mz9 hX9 hbl hbA (j := i9 + 3) (by omega) hL2 dL_law_200 ?_
  refine lv_aload_n hx hb dL_law_201 rfl (lv_at hl9 2 rfl) ?_
  refine lv_iload hx hb dL_law_202 (lv_at hl9 1 rfl) ?_
  refine lv_iconst (v := 4) hx hb dL_law_204 (by decide) ?_
  refine zn_iadd (a := i9) (b := 4) hx hb dL_law_205 ?_
  refine z_sld Z Mz9 hX9 hbl hbA (j := i9 + 4) (by omega) hL2 dL_law_206 ?_
  obtain ⟨ism, m1, m2, m3⟩ := mid_put3 (mW om am T σ) (ouW out T f' :: Wc' u1)
  refine z_callVv (As := [.int (xs (i9 + 1)), .int (xs (i9 + 2)), .int (xs (i9 + 3)), .int (xs (i9 + 4))]) (rest := []) (wc := mW om am T σ) (wc' := mW om am T (σ' u2)) Z Mz9 hm (cwV 4 hts gT_law_X6_steel rfl rfl rfl (by decide +kernel) ⟨Nat.le_trans (Nat.le_of_ble_eq_true rfl) hR.1, Nat.le_trans (Nat.le_of_ble_eq_true rfl) hR.2⟩) ism m1 m2 (fun j hj => rfl) (Nat.le_refl _) (va_recv Z.2.1 Mz9.1 (ci := 7) (q0 := 0) rfl rfl) rfl hl9.1 (Nat.le_of_ble_eq_true rfl) dL_law_207 hroom rfl (fun Hp9 lc9 Mz9 => ?_)
  have Mz9 : zM D A s.heap (mW om am T (σ' u2) ++ (ouW out T f' :: Wc' u1)) _ _ := zM_w (m3 _ rfl) Mz9
  refine lv_aload_n hx hb dL_law_210 rfl (lv_at hl9 4 rfl) ?_
  obtain ⟨ist, t1, t2, t3⟩ := mid_put3 (mW om am T (σ' u2)) (ouW out T f' :: Wc' u1)
  refine z_callVi (As := []) (rest := []) (rv := σ' u2 31 0) (wc := mW om am T (σ' u2)) (wc' := mW om am T (σ' u2)) Z Mz9 (cm_thrown l D T om am (σ' u2)) (cwV 0 hts gT_law_X6_thrown rfl rfl rfl (by decide +kernel) ⟨Nat.le_trans (Nat.le_of_ble_eq_true rfl) hR.1, Nat.le_trans (Nat.le_of_ble_eq_true rfl) hR.2⟩) ist t1 t2 (fun j hj => rfl) (Nat.le_refl _) (va_recv Z.2.1 Mz9.1 (ci := 7) (q0 := 0) rfl rfl) rfl hl9.1 (Nat.le_of_ble_eq_true rfl) dL_law_211 hroom rfl (fun Hp9 lc9 Mz9 => ?_)
  have Mz9 : zM D A s.heap (mW om am T (σ' u2) ++ (ouW out T f' :: Wc' u1)) _ _ := zM_w (t3 _ rfl) Mz9
  refine zn_top (y := k) (h31) ?_
  refine lv_iload hx hb dL_law_214 (lv_at hl9 0 rfl) ?_
  refine lv_icmp_eq (tgt := 221) hx hb dL_law_216 (by decide) (fun _ => ?_) (fun h => absurd h (fun z => z rfl))
  refine lv_goto (tgt := 1784) hx hb dL_law_221 (by decide) ?_
  exact kk u1 _ _ _ Mz9 (lv_sub hl9 [1, 2, 3, 4, 5] rfl)
set_option maxHeartbeats 4000000 in
set_option maxRecDepth 100000 in
theorem lc_melt (Z : zC p s m args c cL_law 7 RL lw_tbl D T A) (hR : 11 ≤ R.frames ∧ 404 ≤ R.locals) (hXX : zX ea mi sa A s s.heap) (hX9 : va_X b L xs s s.heap) (hbl : b < s.heap.size) (hbA : ¬ A b) (hL2 : L < 2 ^ 31) (hi9 : i9 + 4 < L)
    (hw : ZIH l yL_melt wsL_melt rm (zX ea mi sa) D T (S := S1) (ouW out T f :: Wc) (fun u => ouW out T f' :: Wc' u) [.ref o, .int (xs (i9 + 1)), .ref out] k mc ms) (hrm : rm.cells = mc ∧ rm.slots = ms ∧ rm.frames + 1 ≤ 11 ∧ 8 + (4 + 11) + rm.locals ≤ 404) (hf : ∀ (u : S1) (j : Nat), j < (ouW out T f :: Wc).length → ((ouW out T f' :: Wc' u).map Prod.fst)[j]? = ((ouW out T f :: Wc).map Prod.fst)[j]?) (hlen : ∀ u : S1, (ouW out T f :: Wc).length ≤ (ouW out T f' :: Wc' u).length)
    (hm : ZM l yX6_melt wsX6_melt (zrm 1 23) D T (S := S2) (mW om am T σ) (fun u => mW om am T (σ' u)) [.ref om, .int (xs (i9 + 1))] rv) (h31 : ∀ u2 : S2, σ' u2 31 0 = k) (hk : k = 0 → f' (0 : Int32).toNatClampNeg = rv.toInt64) (hroom : cells + mc ≤ R.cells ∧ slots + ms ≤ R.slots) (Mz9 : zM D A s.heap (mW om am T σ ++ (ouW out T f :: Wc)) Hp9 lc9) (hl9 : lv_has sl9 7 [(4, .int (nI (i9))), (0, .ref b), (1, .ref o), (2, .ref om), (3, .ref out)])
    (kk : ∀ (u1 : S1) (u2 : S2) (Hp9 : Heap) (lc9 : List Loc) (sl9 : Array Slot), zM D A s.heap (mW om am T (σ' u2) ++ (ouW out T f' :: Wc' u1)) Hp9 lc9 → lv_has sl9 7 [(4, .int (nI (i9))), (0, .ref b), (1, .ref o), (2, .ref om), (3, .ref out)] → W p l e R s m args below meth c Hp9 lc9 (cells + mc) (slots + ms) Q (F0 m 1784 sl9 [])) :
    W p l e R s m args below meth c Hp9 lc9 cells slots Q (F0 m 224 sl9 []) := by
  have hx := Z.1.1
  have hb := Z.1.2.1
  have hts := Z.1.2.2.2.2
  refine lv_aload_n hx hb dL_law_224 rfl (lv_at hl9 2 rfl) ?_
  refine lv_aload_n hx hb dL_law_225 rfl (lv_at hl9 1 rfl) ?_
  refine lv_iload hx hb dL_law_226 (lv_at hl9 0 rfl) ?_
  refine lv_iconst (v := 1) hx hb dL_law_228 (by decide) ?_
  refine zn_iadd (a := i9) (b := 1) hx hb dL_law_229 ?_
  refine z_sld Z Mz9 hX9 hbl hbA (j := i9 + 1) (by omega) hL2 dL_law_230 ?_
  refine lv_aload_n hx hb dL_law_231 rfl (lv_at hl9 4 rfl) ?_
  obtain ⟨isw, w1, w2, w3⟩ := mid_put4 (mW om am T σ) (ouW out T f :: Wc)
  refine z_callSWH (As := [.ref o, .int (xs (i9 + 1)), .ref out]) (rest := []) (wc := ouW out T f :: Wc) (zX_k ea mi sa) hXX Z Mz9 hw (vx_cwSW 3 hts gT_law_L_melt rfl hrm.1 hrm.2.1 (by decide +kernel) ⟨Nat.le_trans hrm.2.2.1 hR.1, Nat.le_trans hrm.2.2.2 hR.2⟩) isw w1 w2 hf hlen rfl hl9.1 (Nat.le_of_ble_eq_true rfl) dL_law_232 hroom rfl (fun u1 Hp9 lc9 Mz9 => ?_)
  have Mz9 : zM D A s.heap (mW om am T σ ++ (ouW out T f' :: Wc' u1)) _ _ := zM_w (w3 _ (hlen u1)) Mz9
  refine lv_istore (lv' := [(5, .int (k)), (4, .int (nI (i9))), (0, .ref b), (1, .ref o), (2, .ref om), (3, .ref out)]) hx hb dL_law_235 hl9 (by decide) rfl (fun sl9 hl9 => ?_)
  refine lv_aload_n hx hb dL_law_237 rfl (lv_at hl9 4 rfl) ?_
  refine lv_aload_n hx hb dL_law_238 rfl (lv_at hl9 2 rfl) ?_
  refine lv_iload hx hb dL_law_239 (lv_at hl9 1 rfl) ?_
  refine lv_iconst (v := 1) hx hb dL_law_241 (by decide) ?_
  refine zn_iadd (a := i9) (b := 1) hx hb dL_law_242 ?_
  refine z_sld Z Mz9 hX9 hbl hbA (j := i9 + 1) (by omega) hL2 dL_law_243 ?_
  obtain ⟨ism, m1, m2, m3⟩ := mid_put3 (mW om am T σ) (ouW out T f' :: Wc' u1)
  refine z_callViP (As := [.int (xs (i9 + 1))]) (rest := []) (rv := rv) (wc := mW om am T σ) (wG := fun u => mW om am T (σ' u)) zT_k trivial Z Mz9 hm (cwV 1 hts gT_law_X6_melt rfl rfl rfl (by decide +kernel) ⟨Nat.le_trans (Nat.le_of_ble_eq_true rfl) hR.1, Nat.le_trans (Nat.le_of_ble_eq_true rfl) hR.2⟩) ism m1 m2 (fun u j hj => rfl) (fun _ => Nat.le_refl _) (va_recv Z.2.1 Mz9.1 (ci := 7) (q0 := 0) rfl rfl) rfl hl9.1 (Nat.le_of_ble_eq_true rfl) dL_law_244 hroom rfl (fun u2 Hp9 lc9 Mz9 => ?_)
  have Mz9 : zM D A s.heap (mW om am T (σ' u2) ++ (ouW out T f' :: Wc' u1)) _ _ := zM_w (m3 _ rfl) Mz9
  refine lv_istore (lv' := [(6, .int (rv)), (5, .int (k)), (4, .int (nI (i9))), (0, .ref b), (1, .ref o), (2, .ref om), (3, .ref out)]) hx hb dL_law_247 hl9 (by decide) rfl (fun sl9 hl9 => ?_)
  refine lv_aload_n hx hb dL_law_249 rfl (lv_at hl9 5 rfl) ?_
  obtain ⟨ist, t1, t2, t3⟩ := mid_put3 (mW om am T (σ' u2)) (ouW out T f' :: Wc' u1)
  refine z_callVi (As := []) (rest := []) (rv := σ' u2 31 0) (wc := mW om am T (σ' u2)) (wc' := mW om am T (σ' u2)) Z Mz9 (cm_thrown l D T om am (σ' u2)) (cwV 0 hts gT_law_X6_thrown rfl rfl rfl (by decide +kernel) ⟨Nat.le_trans (Nat.le_of_ble_eq_true rfl) hR.1, Nat.le_trans (Nat.le_of_ble_eq_true rfl) hR.2⟩) ist t1 t2 (fun j hj => rfl) (Nat.le_refl _) (va_recv Z.2.1 Mz9.1 (ci := 7) (q0 := 0) rfl rfl) rfl hl9.1 (Nat.le_of_ble_eq_true rfl) dL_law_250 hroom rfl (fun Hp9 lc9 Mz9 => ?_)
  have Mz9 : zM D A s.heap (mW om am T (σ' u2) ++ (ouW out T f' :: Wc' u1)) _ _ := zM_w (t3 _ rfl) Mz9
  refine zn_top (y := k) (h31 u2) ?_
  refine lv_iload hx hb dL_law_253 (lv_at hl9 1 rfl) ?_
  refine lv_icmp_eq (tgt := 260) hx hb dL_law_255 (by decide) (fun _ => ?_) (fun h => absurd h (fun z => z rfl))
  refine lv_iload hx hb dL_law_260 (lv_at hl9 1 rfl) ?_
  refine lv_if_ne (tgt := 277) hx hb dL_law_262 (by decide) (fun c1 => ?_) (fun c1 => ?_)
  ·
    refine lv_goto (tgt := 1784) hx hb dL_law_277 (by decide) ?_
    exact kk u1 u2 _ _ _ Mz9 (lv_sub hl9 [2, 3, 4, 5, 6] rfl)
  ·
    refine lv_aload_n hx hb dL_law_265 rfl (lv_at hl9 6 rfl) ?_
    refine lv_iconst (v := 0) hx hb dL_law_266 (by decide) ?_
    refine va_lald hx hb Z.2.1 Mz9.1 26 2 (cA := T 2) (n := 1) (f := f') rfl rfl (i := 0) (by unfold vp_in; decide) dL_law_267 ?_
    rw [hk c1]
    refine lv_iload hx hb dL_law_268 (lv_at hl9 0 rfl) ?_
    refine lv_i2l (v := rv.toInt64) hx hb dL_law_270 rfl ?_
    refine W.lcmp hx hb dL_law_271 ?_
    rw [lgc]
    refine lv_if_eq (tgt := 277) hx hb dL_law_272 (by decide) (fun _ => ?_) (fun h => absurd h (by decide))
    refine lv_goto (tgt := 1784) hx hb dL_law_277 (by decide) ?_
    exact kk u1 u2 _ _ _ Mz9 (lv_sub hl9 [2, 3, 4, 5, 6] rfl)
set_option maxHeartbeats 4000000 in
set_option maxRecDepth 100000 in
theorem lc_billet (Z : zC p s m args c cL_law 7 RL lw_tbl D T A) (hR : 11 ≤ R.frames ∧ 404 ≤ R.locals) (hXX : zX ea mi sa A s s.heap) (hX9 : va_X b L xs s s.heap) (hbl : b < s.heap.size) (hbA : ¬ A b) (hL2 : L < 2 ^ 31) (hi9 : i9 + 4 < L)
    (hw : ZIH l yL_billet wsL_billet rm (zX ea mi sa) D T (S := S1) (ouW out T f :: Wc) (fun u => ouW out T f' :: Wc' u) [.ref o, .int (xs (i9 + 1)), .int (xs (i9 + 2)), .ref out] k mc ms) (hrm : rm.cells = mc ∧ rm.slots = ms ∧ rm.frames + 1 ≤ 11 ∧ 8 + (5 + 11) + rm.locals ≤ 404) (hf : ∀ (u : S1) (j : Nat), j < (ouW out T f :: Wc).length → ((ouW out T f' :: Wc' u).map Prod.fst)[j]? = ((ouW out T f :: Wc).map Prod.fst)[j]?) (hlen : ∀ u : S1, (ouW out T f :: Wc).length ≤ (ouW out T f' :: Wc' u).length)
    (hm : ZM l yX6_billet wsX6_billet (zrm 1 23) D T (S := S2) (mW om am T σ) (fun u => mW om am T (σ' u)) [.ref om, .int (xs (i9 + 1)), .int (xs (i9 + 2))] rv) (h31 : ∀ u2 : S2, σ' u2 31 0 = k) (hk : k = 0 → f' (0 : Int32).toNatClampNeg = rv.toInt64) (hroom : cells + mc ≤ R.cells ∧ slots + ms ≤ R.slots) (Mz9 : zM D A s.heap (mW om am T σ ++ (ouW out T f :: Wc)) Hp9 lc9) (hl9 : lv_has sl9 7 [(4, .int (nI (i9))), (0, .ref b), (1, .ref o), (2, .ref om), (3, .ref out)])
    (kk : ∀ (u1 : S1) (u2 : S2) (Hp9 : Heap) (lc9 : List Loc) (sl9 : Array Slot), zM D A s.heap (mW om am T (σ' u2) ++ (ouW out T f' :: Wc' u1)) Hp9 lc9 → lv_has sl9 7 [(4, .int (nI (i9))), (0, .ref b), (1, .ref o), (2, .ref om), (3, .ref out)] → W p l e R s m args below meth c Hp9 lc9 (cells + mc) (slots + ms) Q (F0 m 1784 sl9 [])) :
    W p l e R s m args below meth c Hp9 lc9 cells slots Q (F0 m 280 sl9 []) := by
  have hx := Z.1.1
  have hb := Z.1.2.1
  have hts := Z.1.2.2.2.2
  refine lv_aload_n hx hb dL_law_280 rfl (lv_at hl9 2 rfl) ?_
  refine lv_aload_n hx hb dL_law_281 rfl (lv_at hl9 1 rfl) ?_
  refine lv_iload hx hb dL_law_282 (lv_at hl9 0 rfl) ?_
  refine lv_iconst (v := 1) hx hb dL_law_284 (by decide) ?_
  refine zn_iadd (a := i9) (b := 1) hx hb dL_law_285 ?_
  refine z_sld Z Mz9 hX9 hbl hbA (j := i9 + 1) (by omega) hL2 dL_law_286 ?_
  refine lv_aload_n hx hb dL_law_287 rfl (lv_at hl9 1 rfl) ?_
  refine lv_iload hx hb dL_law_288 (lv_at hl9 0 rfl) ?_
  refine lv_iconst (v := 2) hx hb dL_law_290 (by decide) ?_
  refine zn_iadd (a := i9) (b := 2) hx hb dL_law_291 ?_
  refine z_sld Z Mz9 hX9 hbl hbA (j := i9 + 2) (by omega) hL2 dL_law_292 ?_
  refine lv_aload_n hx hb dL_law_293 rfl (lv_at hl9 4 rfl) ?_
  obtain ⟨isw, w1, w2, w3⟩ := mid_put4 (mW om am T σ) (ouW out T f :: Wc)
  refine z_callSWH (As := [.ref o, .int (xs (i9 + 1)), .int (xs (i9 + 2)), .ref out]) (rest := []) (wc := ouW out T f :: Wc) (zX_k ea mi sa) hXX Z Mz9 hw (vx_cwSW 4 hts gT_law_L_billet rfl hrm.1 hrm.2.1 (by decide +kernel) ⟨Nat.le_trans hrm.2.2.1 hR.1, Nat.le_trans hrm.2.2.2 hR.2⟩) isw w1 w2 hf hlen rfl hl9.1 (Nat.le_of_ble_eq_true rfl) dL_law_294 hroom rfl (fun u1 Hp9 lc9 Mz9 => ?_)
  have Mz9 : zM D A s.heap (mW om am T σ ++ (ouW out T f' :: Wc' u1)) _ _ := zM_w (w3 _ (hlen u1)) Mz9
  refine lv_istore (lv' := [(5, .int (k)), (4, .int (nI (i9))), (0, .ref b), (1, .ref o), (2, .ref om), (3, .ref out)]) hx hb dL_law_297 hl9 (by decide) rfl (fun sl9 hl9 => ?_)
  refine lv_aload_n hx hb dL_law_299 rfl (lv_at hl9 4 rfl) ?_
  refine lv_aload_n hx hb dL_law_300 rfl (lv_at hl9 2 rfl) ?_
  refine lv_iload hx hb dL_law_301 (lv_at hl9 1 rfl) ?_
  refine lv_iconst (v := 1) hx hb dL_law_303 (by decide) ?_
  refine zn_iadd (a := i9) (b := 1) hx hb dL_law_304 ?_
  refine z_sld Z Mz9 hX9 hbl hbA (j := i9 + 1) (by omega) hL2 dL_law_305 ?_
  refine lv_aload_n hx hb dL_law_306 rfl (lv_at hl9 2 rfl) ?_
  refine lv_iload hx hb dL_law_307 (lv_at hl9 1 rfl) ?_
  refine lv_iconst (v := 2) hx hb dL_law_309 (by decide) ?_
  refine zn_iadd (a := i9) (b := 2) hx hb dL_law_310 ?_
  refine z_sld Z Mz9 hX9 hbl hbA (j := i9 + 2) (by omega) hL2 dL_law_311 ?_
  obtain ⟨ism, m1, m2, m3⟩ := mid_put3 (mW om am T σ) (ouW out T f' :: Wc' u1)
  refine z_callViP (As := [.int (xs (i9 + 1)), .int (xs (i9 + 2))]) (rest := []) (rv := rv) (wc := mW om am T σ) (wG := fun u => mW om am T (σ' u)) zT_k trivial Z Mz9 hm (cwV 2 hts gT_law_X6_billet rfl rfl rfl (by decide +kernel) ⟨Nat.le_trans (Nat.le_of_ble_eq_true rfl) hR.1, Nat.le_trans (Nat.le_of_ble_eq_true rfl) hR.2⟩) ism m1 m2 (fun u j hj => rfl) (fun _ => Nat.le_refl _) (va_recv Z.2.1 Mz9.1 (ci := 7) (q0 := 0) rfl rfl) rfl hl9.1 (Nat.le_of_ble_eq_true rfl) dL_law_312 hroom rfl (fun u2 Hp9 lc9 Mz9 => ?_)
  have Mz9 : zM D A s.heap (mW om am T (σ' u2) ++ (ouW out T f' :: Wc' u1)) _ _ := zM_w (m3 _ rfl) Mz9
  refine lv_istore (lv' := [(6, .int (rv)), (5, .int (k)), (4, .int (nI (i9))), (0, .ref b), (1, .ref o), (2, .ref om), (3, .ref out)]) hx hb dL_law_315 hl9 (by decide) rfl (fun sl9 hl9 => ?_)
  refine lv_aload_n hx hb dL_law_317 rfl (lv_at hl9 5 rfl) ?_
  obtain ⟨ist, t1, t2, t3⟩ := mid_put3 (mW om am T (σ' u2)) (ouW out T f' :: Wc' u1)
  refine z_callVi (As := []) (rest := []) (rv := σ' u2 31 0) (wc := mW om am T (σ' u2)) (wc' := mW om am T (σ' u2)) Z Mz9 (cm_thrown l D T om am (σ' u2)) (cwV 0 hts gT_law_X6_thrown rfl rfl rfl (by decide +kernel) ⟨Nat.le_trans (Nat.le_of_ble_eq_true rfl) hR.1, Nat.le_trans (Nat.le_of_ble_eq_true rfl) hR.2⟩) ist t1 t2 (fun j hj => rfl) (Nat.le_refl _) (va_recv Z.2.1 Mz9.1 (ci := 7) (q0 := 0) rfl rfl) rfl hl9.1 (Nat.le_of_ble_eq_true rfl) dL_law_318 hroom rfl (fun Hp9 lc9 Mz9 => ?_)
  have Mz9 : zM D A s.heap (mW om am T (σ' u2) ++ (ouW out T f' :: Wc' u1)) _ _ := zM_w (t3 _ rfl) Mz9
  refine zn_top (y := k) (h31 u2) ?_
  refine lv_iload hx hb dL_law_321 (lv_at hl9 1 rfl) ?_
  refine lv_icmp_eq (tgt := 328) hx hb dL_law_323 (by decide) (fun _ => ?_) (fun h => absurd h (fun z => z rfl))
  refine lv_iload hx hb dL_law_328 (lv_at hl9 1 rfl) ?_
  refine lv_if_ne (tgt := 345) hx hb dL_law_330 (by decide) (fun c1 => ?_) (fun c1 => ?_)
  ·
    refine lv_goto (tgt := 1784) hx hb dL_law_345 (by decide) ?_
    exact kk u1 u2 _ _ _ Mz9 (lv_sub hl9 [2, 3, 4, 5, 6] rfl)
  ·
    refine lv_aload_n hx hb dL_law_333 rfl (lv_at hl9 6 rfl) ?_
    refine lv_iconst (v := 0) hx hb dL_law_334 (by decide) ?_
    refine va_lald hx hb Z.2.1 Mz9.1 26 2 (cA := T 2) (n := 1) (f := f') rfl rfl (i := 0) (by unfold vp_in; decide) dL_law_335 ?_
    rw [hk c1]
    refine lv_iload hx hb dL_law_336 (lv_at hl9 0 rfl) ?_
    refine lv_i2l (v := rv.toInt64) hx hb dL_law_338 rfl ?_
    refine W.lcmp hx hb dL_law_339 ?_
    rw [lgc]
    refine lv_if_eq (tgt := 345) hx hb dL_law_340 (by decide) (fun _ => ?_) (fun h => absurd h (by decide))
    refine lv_goto (tgt := 1784) hx hb dL_law_345 (by decide) ?_
    exact kk u1 u2 _ _ _ Mz9 (lv_sub hl9 [2, 3, 4, 5, 6] rfl)
set_option maxHeartbeats 4000000 in
set_option maxRecDepth 100000 in
theorem lc_billetIs (Z : zC p s m args c cL_law 7 RL lw_tbl D T A) (hR : 11 ≤ R.frames ∧ 404 ≤ R.locals) (hXX : zX ea mi sa A s s.heap) (hX9 : va_X b L xs s s.heap) (hbl : b < s.heap.size) (hbA : ¬ A b) (hL2 : L < 2 ^ 31) (hi9 : i9 + 4 < L)
    (hw : ZIH l yL_billetIs wsL_billetIs rm (zX ea mi sa) D T (S := S1) (ouW out T f :: Wc) (fun u => ouW out T f' :: Wc' u) [.ref o, .int (xs (i9 + 1)), .int (xs (i9 + 2)), .ref out] k mc ms) (hrm : rm.cells = mc ∧ rm.slots = ms ∧ rm.frames + 1 ≤ 11 ∧ 8 + (5 + 11) + rm.locals ≤ 404) (hf : ∀ (u : S1) (j : Nat), j < (ouW out T f :: Wc).length → ((ouW out T f' :: Wc' u).map Prod.fst)[j]? = ((ouW out T f :: Wc).map Prod.fst)[j]?) (hlen : ∀ u : S1, (ouW out T f :: Wc).length ≤ (ouW out T f' :: Wc' u).length)
    (hm : ZM l yX6_billetIs wsX6_billetIs (zrm 2 45) D T (S := S2) (mW om am T σ) (fun u => mW om am T (σ' u)) [.ref om, .int (xs (i9 + 1)), .int (xs (i9 + 2))] rv) (h31 : ∀ u2 : S2, σ' u2 31 0 = k) (hk : k = 0 → f' (0 : Int32).toNatClampNeg = rv.toInt64) (hroom : cells + mc ≤ R.cells ∧ slots + ms ≤ R.slots) (Mz9 : zM D A s.heap (mW om am T σ ++ (ouW out T f :: Wc)) Hp9 lc9) (hl9 : lv_has sl9 7 [(4, .int (nI (i9))), (0, .ref b), (1, .ref o), (2, .ref om), (3, .ref out)])
    (kk : ∀ (u1 : S1) (u2 : S2) (Hp9 : Heap) (lc9 : List Loc) (sl9 : Array Slot), zM D A s.heap (mW om am T (σ' u2) ++ (ouW out T f' :: Wc' u1)) Hp9 lc9 → lv_has sl9 7 [(4, .int (nI (i9))), (0, .ref b), (1, .ref o), (2, .ref om), (3, .ref out)] → W p l e R s m args below meth c Hp9 lc9 (cells + mc) (slots + ms) Q (F0 m 1784 sl9 [])) :
    W p l e R s m args below meth c Hp9 lc9 cells slots Q (F0 m 348 sl9 []) := by
  have hx := Z.1.1
  have hb := Z.1.2.1
  have hts := Z.1.2.2.2.2
  refine lv_aload_n hx hb dL_law_348 rfl (lv_at hl9 2 rfl) ?_
  refine lv_aload_n hx hb dL_law_349 rfl (lv_at hl9 1 rfl) ?_
  refine lv_iload hx hb dL_law_350 (lv_at hl9 0 rfl) ?_
  refine lv_iconst (v := 1) hx hb dL_law_352 (by decide) ?_
  refine zn_iadd (a := i9) (b := 1) hx hb dL_law_353 ?_
  refine z_sld Z Mz9 hX9 hbl hbA (j := i9 + 1) (by omega) hL2 dL_law_354 ?_
  refine lv_aload_n hx hb dL_law_355 rfl (lv_at hl9 1 rfl) ?_
  refine lv_iload hx hb dL_law_356 (lv_at hl9 0 rfl) ?_
  refine lv_iconst (v := 2) hx hb dL_law_358 (by decide) ?_
  refine zn_iadd (a := i9) (b := 2) hx hb dL_law_359 ?_
  refine z_sld Z Mz9 hX9 hbl hbA (j := i9 + 2) (by omega) hL2 dL_law_360 ?_
  refine lv_aload_n hx hb dL_law_361 rfl (lv_at hl9 4 rfl) ?_
  obtain ⟨isw, w1, w2, w3⟩ := mid_put4 (mW om am T σ) (ouW out T f :: Wc)
  refine z_callSWH (As := [.ref o, .int (xs (i9 + 1)), .int (xs (i9 + 2)), .ref out]) (rest := []) (wc := ouW out T f :: Wc) (zX_k ea mi sa) hXX Z Mz9 hw (vx_cwSW 4 hts gT_law_L_billetIs rfl hrm.1 hrm.2.1 (by decide +kernel) ⟨Nat.le_trans hrm.2.2.1 hR.1, Nat.le_trans hrm.2.2.2 hR.2⟩) isw w1 w2 hf hlen rfl hl9.1 (Nat.le_of_ble_eq_true rfl) dL_law_362 hroom rfl (fun u1 Hp9 lc9 Mz9 => ?_)
  have Mz9 : zM D A s.heap (mW om am T σ ++ (ouW out T f' :: Wc' u1)) _ _ := zM_w (w3 _ (hlen u1)) Mz9
  refine lv_istore (lv' := [(5, .int (k)), (4, .int (nI (i9))), (0, .ref b), (1, .ref o), (2, .ref om), (3, .ref out)]) hx hb dL_law_365 hl9 (by decide) rfl (fun sl9 hl9 => ?_)
  refine lv_aload_n hx hb dL_law_367 rfl (lv_at hl9 4 rfl) ?_
  refine lv_aload_n hx hb dL_law_368 rfl (lv_at hl9 2 rfl) ?_
  refine lv_iload hx hb dL_law_369 (lv_at hl9 1 rfl) ?_
  refine lv_iconst (v := 1) hx hb dL_law_371 (by decide) ?_
  refine zn_iadd (a := i9) (b := 1) hx hb dL_law_372 ?_
  refine z_sld Z Mz9 hX9 hbl hbA (j := i9 + 1) (by omega) hL2 dL_law_373 ?_
  refine lv_aload_n hx hb dL_law_374 rfl (lv_at hl9 2 rfl) ?_
  refine lv_iload hx hb dL_law_375 (lv_at hl9 1 rfl) ?_
  refine lv_iconst (v := 2) hx hb dL_law_377 (by decide) ?_
  refine zn_iadd (a := i9) (b := 2) hx hb dL_law_378 ?_
  refine z_sld Z Mz9 hX9 hbl hbA (j := i9 + 2) (by omega) hL2 dL_law_379 ?_
  obtain ⟨ism, m1, m2, m3⟩ := mid_put3 (mW om am T σ) (ouW out T f' :: Wc' u1)
  refine z_callViP (As := [.int (xs (i9 + 1)), .int (xs (i9 + 2))]) (rest := []) (rv := rv) (wc := mW om am T σ) (wG := fun u => mW om am T (σ' u)) zT_k trivial Z Mz9 hm (cwV 2 hts gT_law_X6_billetIs rfl rfl rfl (by decide +kernel) ⟨Nat.le_trans (Nat.le_of_ble_eq_true rfl) hR.1, Nat.le_trans (Nat.le_of_ble_eq_true rfl) hR.2⟩) ism m1 m2 (fun u j hj => rfl) (fun _ => Nat.le_refl _) (va_recv Z.2.1 Mz9.1 (ci := 7) (q0 := 0) rfl rfl) rfl hl9.1 (Nat.le_of_ble_eq_true rfl) dL_law_380 hroom rfl (fun u2 Hp9 lc9 Mz9 => ?_)
  have Mz9 : zM D A s.heap (mW om am T (σ' u2) ++ (ouW out T f' :: Wc' u1)) _ _ := zM_w (m3 _ rfl) Mz9
  refine lv_istore (lv' := [(6, .int (rv)), (5, .int (k)), (4, .int (nI (i9))), (0, .ref b), (1, .ref o), (2, .ref om), (3, .ref out)]) hx hb dL_law_383 hl9 (by decide) rfl (fun sl9 hl9 => ?_)
  refine lv_aload_n hx hb dL_law_385 rfl (lv_at hl9 5 rfl) ?_
  obtain ⟨ist, t1, t2, t3⟩ := mid_put3 (mW om am T (σ' u2)) (ouW out T f' :: Wc' u1)
  refine z_callVi (As := []) (rest := []) (rv := σ' u2 31 0) (wc := mW om am T (σ' u2)) (wc' := mW om am T (σ' u2)) Z Mz9 (cm_thrown l D T om am (σ' u2)) (cwV 0 hts gT_law_X6_thrown rfl rfl rfl (by decide +kernel) ⟨Nat.le_trans (Nat.le_of_ble_eq_true rfl) hR.1, Nat.le_trans (Nat.le_of_ble_eq_true rfl) hR.2⟩) ist t1 t2 (fun j hj => rfl) (Nat.le_refl _) (va_recv Z.2.1 Mz9.1 (ci := 7) (q0 := 0) rfl rfl) rfl hl9.1 (Nat.le_of_ble_eq_true rfl) dL_law_386 hroom rfl (fun Hp9 lc9 Mz9 => ?_)
  have Mz9 : zM D A s.heap (mW om am T (σ' u2) ++ (ouW out T f' :: Wc' u1)) _ _ := zM_w (t3 _ rfl) Mz9
  refine zn_top (y := k) (h31 u2) ?_
  refine lv_iload hx hb dL_law_389 (lv_at hl9 1 rfl) ?_
  refine lv_icmp_eq (tgt := 396) hx hb dL_law_391 (by decide) (fun _ => ?_) (fun h => absurd h (fun z => z rfl))
  refine lv_iload hx hb dL_law_396 (lv_at hl9 1 rfl) ?_
  refine lv_if_ne (tgt := 413) hx hb dL_law_398 (by decide) (fun c1 => ?_) (fun c1 => ?_)
  ·
    refine lv_goto (tgt := 1784) hx hb dL_law_413 (by decide) ?_
    exact kk u1 u2 _ _ _ Mz9 (lv_sub hl9 [2, 3, 4, 5, 6] rfl)
  ·
    refine lv_aload_n hx hb dL_law_401 rfl (lv_at hl9 6 rfl) ?_
    refine lv_iconst (v := 0) hx hb dL_law_402 (by decide) ?_
    refine va_lald hx hb Z.2.1 Mz9.1 26 2 (cA := T 2) (n := 1) (f := f') rfl rfl (i := 0) (by unfold vp_in; decide) dL_law_403 ?_
    rw [hk c1]
    refine lv_iload hx hb dL_law_404 (lv_at hl9 0 rfl) ?_
    refine lv_i2l (v := rv.toInt64) hx hb dL_law_406 rfl ?_
    refine W.lcmp hx hb dL_law_407 ?_
    rw [lgc]
    refine lv_if_eq (tgt := 413) hx hb dL_law_408 (by decide) (fun _ => ?_) (fun h => absurd h (by decide))
    refine lv_goto (tgt := 1784) hx hb dL_law_413 (by decide) ?_
    exact kk u1 u2 _ _ _ Mz9 (lv_sub hl9 [2, 3, 4, 5, 6] rfl)
set_option maxHeartbeats 4000000 in
set_option maxRecDepth 100000 in
theorem lc_area (Z : zC p s m args c cL_law 7 RL lw_tbl D T A) (hR : 11 ≤ R.frames ∧ 404 ≤ R.locals) (hXX : zX ea mi sa A s s.heap) (hX9 : va_X b L xs s s.heap) (hbl : b < s.heap.size) (hbA : ¬ A b) (hL2 : L < 2 ^ 31) (hi9 : i9 + 4 < L)
    (hw : ZIH l yL_area wsL_area rm (zX ea mi sa) D T (S := S1) (ouW out T f :: Wc) (fun u => ouW out T f' :: Wc' u) [.ref o, .int (xs (i9 + 1)), .int (xs (i9 + 2)), .ref out] k mc ms) (hrm : rm.cells = mc ∧ rm.slots = ms ∧ rm.frames + 1 ≤ 11 ∧ 8 + (5 + 11) + rm.locals ≤ 404) (hf : ∀ (u : S1) (j : Nat), j < (ouW out T f :: Wc).length → ((ouW out T f' :: Wc' u).map Prod.fst)[j]? = ((ouW out T f :: Wc).map Prod.fst)[j]?) (hlen : ∀ u : S1, (ouW out T f :: Wc).length ≤ (ouW out T f' :: Wc' u).length)
    (hm : ZM l yX6_area wsX6_area (zrm 2 43) D T (S := S2) (mW om am T σ) (fun u => mW om am T (σ' u)) [.ref om, .int (xs (i9 + 1)), .int (xs (i9 + 2))] rv) (h31 : ∀ u2 : S2, σ' u2 31 0 = k) (hk : k = 0 → f' (0 : Int32).toNatClampNeg = rv.toInt64) (hroom : cells + mc ≤ R.cells ∧ slots + ms ≤ R.slots) (Mz9 : zM D A s.heap (mW om am T σ ++ (ouW out T f :: Wc)) Hp9 lc9) (hl9 : lv_has sl9 7 [(4, .int (nI (i9))), (0, .ref b), (1, .ref o), (2, .ref om), (3, .ref out)])
    (kk : ∀ (u1 : S1) (u2 : S2) (Hp9 : Heap) (lc9 : List Loc) (sl9 : Array Slot), zM D A s.heap (mW om am T (σ' u2) ++ (ouW out T f' :: Wc' u1)) Hp9 lc9 → lv_has sl9 7 [(4, .int (nI (i9))), (0, .ref b), (1, .ref o), (2, .ref om), (3, .ref out)] → W p l e R s m args below meth c Hp9 lc9 (cells + mc) (slots + ms) Q (F0 m 1784 sl9 [])) :
    W p l e R s m args below meth c Hp9 lc9 cells slots Q (F0 m 416 sl9 []) := by
  have hx := Z.1.1
  have hb := Z.1.2.1
  have hts := Z.1.2.2.2.2
  refine lv_aload_n hx hb dL_law_416 rfl (lv_at hl9 2 rfl) ?_
  refine lv_aload_n hx hb dL_law_417 rfl (lv_at hl9 1 rfl) ?_
  refine lv_iload hx hb dL_law_418 (lv_at hl9 0 rfl) ?_
  refine lv_iconst (v := 1) hx hb dL_law_420 (by decide) ?_
  refine zn_iadd (a := i9) (b := 1) hx hb dL_law_421 ?_
  refine z_sld Z Mz9 hX9 hbl hbA (j := i9 + 1) (by omega) hL2 dL_law_422 ?_
  refine lv_aload_n hx hb dL_law_423 rfl (lv_at hl9 1 rfl) ?_
  refine lv_iload hx hb dL_law_424 (lv_at hl9 0 rfl) ?_
  refine lv_iconst (v := 2) hx hb dL_law_426 (by decide) ?_
  refine zn_iadd (a := i9) (b := 2) hx hb dL_law_427 ?_
  refine z_sld Z Mz9 hX9 hbl hbA (j := i9 + 2) (by omega) hL2 dL_law_428 ?_
  refine lv_aload_n hx hb dL_law_429 rfl (lv_at hl9 4 rfl) ?_
  obtain ⟨isw, w1, w2, w3⟩ := mid_put4 (mW om am T σ) (ouW out T f :: Wc)
  refine z_callSWH (As := [.ref o, .int (xs (i9 + 1)), .int (xs (i9 + 2)), .ref out]) (rest := []) (wc := ouW out T f :: Wc) (zX_k ea mi sa) hXX Z Mz9 hw (vx_cwSW 4 hts gT_law_L_area rfl hrm.1 hrm.2.1 (by decide +kernel) ⟨Nat.le_trans hrm.2.2.1 hR.1, Nat.le_trans hrm.2.2.2 hR.2⟩) isw w1 w2 hf hlen rfl hl9.1 (Nat.le_of_ble_eq_true rfl) dL_law_430 hroom rfl (fun u1 Hp9 lc9 Mz9 => ?_)
  have Mz9 : zM D A s.heap (mW om am T σ ++ (ouW out T f' :: Wc' u1)) _ _ := zM_w (w3 _ (hlen u1)) Mz9
  refine lv_istore (lv' := [(5, .int (k)), (4, .int (nI (i9))), (0, .ref b), (1, .ref o), (2, .ref om), (3, .ref out)]) hx hb dL_law_433 hl9 (by decide) rfl (fun sl9 hl9 => ?_)
  refine lv_aload_n hx hb dL_law_435 rfl (lv_at hl9 4 rfl) ?_
  refine lv_aload_n hx hb dL_law_436 rfl (lv_at hl9 2 rfl) ?_
  refine lv_iload hx hb dL_law_437 (lv_at hl9 1 rfl) ?_
  refine lv_iconst (v := 1) hx hb dL_law_439 (by decide) ?_
  refine zn_iadd (a := i9) (b := 1) hx hb dL_law_440 ?_
  refine z_sld Z Mz9 hX9 hbl hbA (j := i9 + 1) (by omega) hL2 dL_law_441 ?_
  refine lv_aload_n hx hb dL_law_442 rfl (lv_at hl9 2 rfl) ?_
  refine lv_iload hx hb dL_law_443 (lv_at hl9 1 rfl) ?_
  refine lv_iconst (v := 2) hx hb dL_law_445 (by decide) ?_
  refine zn_iadd (a := i9) (b := 2) hx hb dL_law_446 ?_
  refine z_sld Z Mz9 hX9 hbl hbA (j := i9 + 2) (by omega) hL2 dL_law_447 ?_
  obtain ⟨ism, m1, m2, m3⟩ := mid_put3 (mW om am T σ) (ouW out T f' :: Wc' u1)
  refine z_callViP (As := [.int (xs (i9 + 1)), .int (xs (i9 + 2))]) (rest := []) (rv := rv) (wc := mW om am T σ) (wG := fun u => mW om am T (σ' u)) zT_k trivial Z Mz9 hm (cwV 2 hts gT_law_X6_area rfl rfl rfl (by decide +kernel) ⟨Nat.le_trans (Nat.le_of_ble_eq_true rfl) hR.1, Nat.le_trans (Nat.le_of_ble_eq_true rfl) hR.2⟩) ism m1 m2 (fun u j hj => rfl) (fun _ => Nat.le_refl _) (va_recv Z.2.1 Mz9.1 (ci := 7) (q0 := 0) rfl rfl) rfl hl9.1 (Nat.le_of_ble_eq_true rfl) dL_law_448 hroom rfl (fun u2 Hp9 lc9 Mz9 => ?_)
  have Mz9 : zM D A s.heap (mW om am T (σ' u2) ++ (ouW out T f' :: Wc' u1)) _ _ := zM_w (m3 _ rfl) Mz9
  refine lv_istore (lv' := [(6, .int (rv)), (5, .int (k)), (4, .int (nI (i9))), (0, .ref b), (1, .ref o), (2, .ref om), (3, .ref out)]) hx hb dL_law_451 hl9 (by decide) rfl (fun sl9 hl9 => ?_)
  refine lv_aload_n hx hb dL_law_453 rfl (lv_at hl9 5 rfl) ?_
  obtain ⟨ist, t1, t2, t3⟩ := mid_put3 (mW om am T (σ' u2)) (ouW out T f' :: Wc' u1)
  refine z_callVi (As := []) (rest := []) (rv := σ' u2 31 0) (wc := mW om am T (σ' u2)) (wc' := mW om am T (σ' u2)) Z Mz9 (cm_thrown l D T om am (σ' u2)) (cwV 0 hts gT_law_X6_thrown rfl rfl rfl (by decide +kernel) ⟨Nat.le_trans (Nat.le_of_ble_eq_true rfl) hR.1, Nat.le_trans (Nat.le_of_ble_eq_true rfl) hR.2⟩) ist t1 t2 (fun j hj => rfl) (Nat.le_refl _) (va_recv Z.2.1 Mz9.1 (ci := 7) (q0 := 0) rfl rfl) rfl hl9.1 (Nat.le_of_ble_eq_true rfl) dL_law_454 hroom rfl (fun Hp9 lc9 Mz9 => ?_)
  have Mz9 : zM D A s.heap (mW om am T (σ' u2) ++ (ouW out T f' :: Wc' u1)) _ _ := zM_w (t3 _ rfl) Mz9
  refine zn_top (y := k) (h31 u2) ?_
  refine lv_iload hx hb dL_law_457 (lv_at hl9 1 rfl) ?_
  refine lv_icmp_eq (tgt := 464) hx hb dL_law_459 (by decide) (fun _ => ?_) (fun h => absurd h (fun z => z rfl))
  refine lv_iload hx hb dL_law_464 (lv_at hl9 1 rfl) ?_
  refine lv_if_ne (tgt := 481) hx hb dL_law_466 (by decide) (fun c1 => ?_) (fun c1 => ?_)
  ·
    refine lv_goto (tgt := 1784) hx hb dL_law_481 (by decide) ?_
    exact kk u1 u2 _ _ _ Mz9 (lv_sub hl9 [2, 3, 4, 5, 6] rfl)
  ·
    refine lv_aload_n hx hb dL_law_469 rfl (lv_at hl9 6 rfl) ?_
    refine lv_iconst (v := 0) hx hb dL_law_470 (by decide) ?_
    refine va_lald hx hb Z.2.1 Mz9.1 26 2 (cA := T 2) (n := 1) (f := f') rfl rfl (i := 0) (by unfold vp_in; decide) dL_law_471 ?_
    rw [hk c1]
    refine lv_iload hx hb dL_law_472 (lv_at hl9 0 rfl) ?_
    refine lv_i2l (v := rv.toInt64) hx hb dL_law_474 rfl ?_
    refine W.lcmp hx hb dL_law_475 ?_
    rw [lgc]
    refine lv_if_eq (tgt := 481) hx hb dL_law_476 (by decide) (fun _ => ?_) (fun h => absurd h (by decide))
    refine lv_goto (tgt := 1784) hx hb dL_law_481 (by decide) ?_
    exact kk u1 u2 _ _ _ Mz9 (lv_sub hl9 [2, 3, 4, 5, 6] rfl)
set_option maxHeartbeats 4000000 in
set_option maxRecDepth 100000 in
theorem lc_balances (Z : zC p s m args c cL_law 7 RL lw_tbl D T A) (hR : 11 ≤ R.frames ∧ 404 ≤ R.locals) (hXX : zX ea mi sa A s s.heap) (hX9 : va_X b L xs s s.heap) (hbl : b < s.heap.size) (hbA : ¬ A b) (hL2 : L < 2 ^ 31) (hi9 : i9 + 4 < L)
    (hw : ZIH l yL_balances wsL_balances rm (zX ea mi sa) D T (S := S1) (ouW out T f :: Wc) (fun u => ouW out T f' :: Wc' u) [.ref o, .int (xs (i9 + 1)), .ref out] k mc ms) (hrm : rm.cells = mc ∧ rm.slots = ms ∧ rm.frames + 1 ≤ 11 ∧ 8 + (4 + 11) + rm.locals ≤ 404) (hf : ∀ (u : S1) (j : Nat), j < (ouW out T f :: Wc).length → ((ouW out T f' :: Wc' u).map Prod.fst)[j]? = ((ouW out T f :: Wc).map Prod.fst)[j]?) (hlen : ∀ u : S1, (ouW out T f :: Wc).length ≤ (ouW out T f' :: Wc' u).length)
    (hm : ZM l yX6_balances wsX6_balances (zrm 2 43) D T (S := S2) (mW om am T σ) (fun u => mW om am T (σ' u)) [.ref om, .int (xs (i9 + 1))] rv) (h31 : ∀ u2 : S2, σ' u2 31 0 = k) (hk : k = 0 → f' (0 : Int32).toNatClampNeg = if rv = 0 then 0 else 1) (hroom : cells + mc ≤ R.cells ∧ slots + ms ≤ R.slots) (Mz9 : zM D A s.heap (mW om am T σ ++ (ouW out T f :: Wc)) Hp9 lc9) (hl9 : lv_has sl9 7 [(4, .int (nI (i9))), (0, .ref b), (1, .ref o), (2, .ref om), (3, .ref out)])
    (kk : ∀ (u1 : S1) (u2 : S2) (Hp9 : Heap) (lc9 : List Loc) (sl9 : Array Slot), zM D A s.heap (mW om am T (σ' u2) ++ (ouW out T f' :: Wc' u1)) Hp9 lc9 → lv_has sl9 7 [(4, .int (nI (i9))), (0, .ref b), (1, .ref o), (2, .ref om), (3, .ref out)] → W p l e R s m args below meth c Hp9 lc9 (cells + mc) (slots + ms) Q (F0 m 1784 sl9 [])) :
    W p l e R s m args below meth c Hp9 lc9 cells slots Q (F0 m 484 sl9 []) := by
  have hx := Z.1.1
  have hb := Z.1.2.1
  have hts := Z.1.2.2.2.2
  refine lv_aload_n hx hb dL_law_484 rfl (lv_at hl9 2 rfl) ?_
  refine lv_aload_n hx hb dL_law_485 rfl (lv_at hl9 1 rfl) ?_
  refine lv_iload hx hb dL_law_486 (lv_at hl9 0 rfl) ?_
  refine lv_iconst (v := 1) hx hb dL_law_488 (by decide) ?_
  refine zn_iadd (a := i9) (b := 1) hx hb dL_law_489 ?_
  refine z_sld Z Mz9 hX9 hbl hbA (j := i9 + 1) (by omega) hL2 dL_law_490 ?_
  refine lv_aload_n hx hb dL_law_491 rfl (lv_at hl9 4 rfl) ?_
  obtain ⟨isw, w1, w2, w3⟩ := mid_put4 (mW om am T σ) (ouW out T f :: Wc)
  refine z_callSWH (As := [.ref o, .int (xs (i9 + 1)), .ref out]) (rest := []) (wc := ouW out T f :: Wc) (zX_k ea mi sa) hXX Z Mz9 hw (vx_cwSW 3 hts gT_law_L_balances rfl hrm.1 hrm.2.1 (by decide +kernel) ⟨Nat.le_trans hrm.2.2.1 hR.1, Nat.le_trans hrm.2.2.2 hR.2⟩) isw w1 w2 hf hlen rfl hl9.1 (Nat.le_of_ble_eq_true rfl) dL_law_492 hroom rfl (fun u1 Hp9 lc9 Mz9 => ?_)
  have Mz9 : zM D A s.heap (mW om am T σ ++ (ouW out T f' :: Wc' u1)) _ _ := zM_w (w3 _ (hlen u1)) Mz9
  refine lv_istore (lv' := [(5, .int (k)), (4, .int (nI (i9))), (0, .ref b), (1, .ref o), (2, .ref om), (3, .ref out)]) hx hb dL_law_495 hl9 (by decide) rfl (fun sl9 hl9 => ?_)
  refine lv_aload_n hx hb dL_law_497 rfl (lv_at hl9 4 rfl) ?_
  refine lv_aload_n hx hb dL_law_498 rfl (lv_at hl9 2 rfl) ?_
  refine lv_iload hx hb dL_law_499 (lv_at hl9 1 rfl) ?_
  refine lv_iconst (v := 1) hx hb dL_law_501 (by decide) ?_
  refine zn_iadd (a := i9) (b := 1) hx hb dL_law_502 ?_
  refine z_sld Z Mz9 hX9 hbl hbA (j := i9 + 1) (by omega) hL2 dL_law_503 ?_
  obtain ⟨ism, m1, m2, m3⟩ := mid_put3 (mW om am T σ) (ouW out T f' :: Wc' u1)
  refine z_callViP (As := [.int (xs (i9 + 1))]) (rest := []) (rv := rv) (wc := mW om am T σ) (wG := fun u => mW om am T (σ' u)) zT_k trivial Z Mz9 hm (cwV 1 hts gT_law_X6_balances rfl rfl rfl (by decide +kernel) ⟨Nat.le_trans (Nat.le_of_ble_eq_true rfl) hR.1, Nat.le_trans (Nat.le_of_ble_eq_true rfl) hR.2⟩) ism m1 m2 (fun u j hj => rfl) (fun _ => Nat.le_refl _) (va_recv Z.2.1 Mz9.1 (ci := 7) (q0 := 0) rfl rfl) rfl hl9.1 (Nat.le_of_ble_eq_true rfl) dL_law_504 hroom rfl (fun u2 Hp9 lc9 Mz9 => ?_)
  have Mz9 : zM D A s.heap (mW om am T (σ' u2) ++ (ouW out T f' :: Wc' u1)) _ _ := zM_w (m3 _ rfl) Mz9
  refine lv_istore (lv' := [(6, .int (rv)), (5, .int (k)), (4, .int (nI (i9))), (0, .ref b), (1, .ref o), (2, .ref om), (3, .ref out)]) hx hb dL_law_507 hl9 (by decide) rfl (fun sl9 hl9 => ?_)
  refine lv_aload_n hx hb dL_law_509 rfl (lv_at hl9 5 rfl) ?_
  obtain ⟨ist, t1, t2, t3⟩ := mid_put3 (mW om am T (σ' u2)) (ouW out T f' :: Wc' u1)
  refine z_callVi (As := []) (rest := []) (rv := σ' u2 31 0) (wc := mW om am T (σ' u2)) (wc' := mW om am T (σ' u2)) Z Mz9 (cm_thrown l D T om am (σ' u2)) (cwV 0 hts gT_law_X6_thrown rfl rfl rfl (by decide +kernel) ⟨Nat.le_trans (Nat.le_of_ble_eq_true rfl) hR.1, Nat.le_trans (Nat.le_of_ble_eq_true rfl) hR.2⟩) ist t1 t2 (fun j hj => rfl) (Nat.le_refl _) (va_recv Z.2.1 Mz9.1 (ci := 7) (q0 := 0) rfl rfl) rfl hl9.1 (Nat.le_of_ble_eq_true rfl) dL_law_510 hroom rfl (fun Hp9 lc9 Mz9 => ?_)
  have Mz9 : zM D A s.heap (mW om am T (σ' u2) ++ (ouW out T f' :: Wc' u1)) _ _ := zM_w (t3 _ rfl) Mz9
  refine zn_top (y := k) (h31 u2) ?_
  refine lv_iload hx hb dL_law_513 (lv_at hl9 1 rfl) ?_
  refine lv_icmp_eq (tgt := 520) hx hb dL_law_515 (by decide) (fun _ => ?_) (fun h => absurd h (fun z => z rfl))
  refine lv_iload hx hb dL_law_520 (lv_at hl9 1 rfl) ?_
  refine lv_if_ne (tgt := 544) hx hb dL_law_522 (by decide) (fun c1 => ?_) (fun c1 => ?_)
  ·
    refine lv_goto (tgt := 1784) hx hb dL_law_544 (by decide) ?_
    exact kk u1 u2 _ _ _ Mz9 (lv_sub hl9 [2, 3, 4, 5, 6] rfl)
  ·
    refine lv_aload_n hx hb dL_law_525 rfl (lv_at hl9 6 rfl) ?_
    refine lv_iconst (v := 0) hx hb dL_law_526 (by decide) ?_
    refine va_lald hx hb Z.2.1 Mz9.1 26 2 (cA := T 2) (n := 1) (f := f') rfl rfl (i := 0) (by unfold vp_in; decide) dL_law_527 ?_
    rw [hk c1]
    refine lv_iload hx hb dL_law_528 (lv_at hl9 0 rfl) ?_
    refine lv_if_eq (tgt := 537) hx hb dL_law_530 (by decide) (fun c2 => ?_) (fun c2 => ?_)
    ·
      refine lv_lconst (v := 0) hx hb dL_law_537 rfl ?_
      refine W.lcmp hx hb dL_law_538 ?_
      rw [if_pos c2, lgc]
      refine lv_if_eq (tgt := 544) hx hb dL_law_539 (by decide) (fun _ => ?_) (fun h => absurd h (by decide))
      refine lv_goto (tgt := 1784) hx hb dL_law_544 (by decide) ?_
      exact kk u1 u2 _ _ _ Mz9 (lv_sub hl9 [2, 3, 4, 5, 6] rfl)
    ·
      refine lv_lconst (v := 1) hx hb dL_law_533 rfl ?_
      refine lv_goto (tgt := 538) hx hb dL_law_534 (by decide) ?_
      refine W.lcmp hx hb dL_law_538 ?_
      rw [if_neg c2, lgc]
      refine lv_if_eq (tgt := 544) hx hb dL_law_539 (by decide) (fun _ => ?_) (fun h => absurd h (by decide))
      refine lv_goto (tgt := 1784) hx hb dL_law_544 (by decide) ?_
      exact kk u1 u2 _ _ _ Mz9 (lv_sub hl9 [2, 3, 4, 5, 6] rfl)
set_option maxHeartbeats 4000000 in
set_option maxRecDepth 100000 in
theorem lc_heat (Z : zC p s m args c cL_law 7 RL lw_tbl D T A) (hR : 11 ≤ R.frames ∧ 404 ≤ R.locals) (hXX : zX ea mi sa A s s.heap) (hX9 : va_X b L xs s s.heap) (hbl : b < s.heap.size) (hbA : ¬ A b) (hL2 : L < 2 ^ 31) (hi9 : i9 + 4 < L)
    (hw : ZIH l yL_heat wsL_heat rm (zX ea mi sa) D T (S := S1) (ouW out T f :: Wc) (fun u => ouW out T f' :: Wc' u) [.ref o, .int (xs (i9 + 1)), .int (xs (i9 + 2)), .int (xs (i9 + 3)), .ref out] k mc ms) (hrm : rm.cells = mc ∧ rm.slots = ms ∧ rm.frames + 1 ≤ 11 ∧ 8 + (6 + 11) + rm.locals ≤ 404) (hf : ∀ (u : S1) (j : Nat), j < (ouW out T f :: Wc).length → ((ouW out T f' :: Wc' u).map Prod.fst)[j]? = ((ouW out T f :: Wc).map Prod.fst)[j]?) (hlen : ∀ u : S1, (ouW out T f :: Wc).length ≤ (ouW out T f' :: Wc' u).length)
    (hm : ZM l yX6_heat wsX6_heat (zrm 2 43) D T (S := S2) (mW om am T σ) (fun u => mW om am T (σ' u)) [.ref om, .int (xs (i9 + 1)), .int (xs (i9 + 2)), .int (xs (i9 + 3))] rv) (h31 : ∀ u2 : S2, σ' u2 31 0 = k) (hk : k = 0 → f' (0 : Int32).toNatClampNeg = rv.toInt64) (hroom : cells + mc ≤ R.cells ∧ slots + ms ≤ R.slots) (Mz9 : zM D A s.heap (mW om am T σ ++ (ouW out T f :: Wc)) Hp9 lc9) (hl9 : lv_has sl9 7 [(4, .int (nI (i9))), (0, .ref b), (1, .ref o), (2, .ref om), (3, .ref out)])
    (kk : ∀ (u1 : S1) (u2 : S2) (Hp9 : Heap) (lc9 : List Loc) (sl9 : Array Slot), zM D A s.heap (mW om am T (σ' u2) ++ (ouW out T f' :: Wc' u1)) Hp9 lc9 → lv_has sl9 7 [(4, .int (nI (i9))), (0, .ref b), (1, .ref o), (2, .ref om), (3, .ref out)] → W p l e R s m args below meth c Hp9 lc9 (cells + mc) (slots + ms) Q (F0 m 1784 sl9 [])) :
    W p l e R s m args below meth c Hp9 lc9 cells slots Q (F0 m 547 sl9 []) := by
  have hx := Z.1.1
  have hb := Z.1.2.1
  have hts := Z.1.2.2.2.2
  refine lv_aload_n hx hb dL_law_547 rfl (lv_at hl9 2 rfl) ?_
  refine lv_aload_n hx hb dL_law_548 rfl (lv_at hl9 1 rfl) ?_
  refine lv_iload hx hb dL_law_549 (lv_at hl9 0 rfl) ?_
  refine lv_iconst (v := 1) hx hb dL_law_551 (by decide) ?_
  refine zn_iadd (a := i9) (b := 1) hx hb dL_law_552 ?_
  refine z_sld Z Mz9 hX9 hbl hbA (j := i9 + 1) (by omega) hL2 dL_law_553 ?_
  refine lv_aload_n hx hb dL_law_554 rfl (lv_at hl9 1 rfl) ?_
  refine lv_iload hx hb dL_law_555 (lv_at hl9 0 rfl) ?_
  refine lv_iconst (v := 2) hx hb dL_law_557 (by decide) ?_
  refine zn_iadd (a := i9) (b := 2) hx hb dL_law_558 ?_
  refine z_sld Z Mz9 hX9 hbl hbA (j := i9 + 2) (by omega) hL2 dL_law_559 ?_
  refine lv_aload_n hx hb dL_law_560 rfl (lv_at hl9 1 rfl) ?_
  refine lv_iload hx hb dL_law_561 (lv_at hl9 0 rfl) ?_
  refine lv_iconst (v := 3) hx hb dL_law_563 (by decide) ?_
  refine zn_iadd (a := i9) (b := 3) hx hb dL_law_564 ?_
  refine z_sld Z Mz9 hX9 hbl hbA (j := i9 + 3) (by omega) hL2 dL_law_565 ?_
  refine lv_aload_n hx hb dL_law_566 rfl (lv_at hl9 4 rfl) ?_
  obtain ⟨isw, w1, w2, w3⟩ := mid_put4 (mW om am T σ) (ouW out T f :: Wc)
  refine z_callSWH (As := [.ref o, .int (xs (i9 + 1)), .int (xs (i9 + 2)), .int (xs (i9 + 3)), .ref out]) (rest := []) (wc := ouW out T f :: Wc) (zX_k ea mi sa) hXX Z Mz9 hw (vx_cwSW 5 hts gT_law_L_heat rfl hrm.1 hrm.2.1 (by decide +kernel) ⟨Nat.le_trans hrm.2.2.1 hR.1, Nat.le_trans hrm.2.2.2 hR.2⟩) isw w1 w2 hf hlen rfl hl9.1 (Nat.le_of_ble_eq_true rfl) dL_law_567 hroom rfl (fun u1 Hp9 lc9 Mz9 => ?_)
  have Mz9 : zM D A s.heap (mW om am T σ ++ (ouW out T f' :: Wc' u1)) _ _ := zM_w (w3 _ (hlen u1)) Mz9
  refine lv_istore (lv' := [(5, .int (k)), (4, .int (nI (i9))), (0, .ref b), (1, .ref o), (2, .ref om), (3, .ref out)]) hx hb dL_law_570 hl9 (by decide) rfl (fun sl9 hl9 => ?_)
  refine lv_aload_n hx hb dL_law_572 rfl (lv_at hl9 4 rfl) ?_
  refine lv_aload_n hx hb dL_law_573 rfl (lv_at hl9 2 rfl) ?_
  refine lv_iload hx hb dL_law_574 (lv_at hl9 1 rfl) ?_
  refine lv_iconst (v := 1) hx hb dL_law_576 (by decide) ?_
  refine zn_iadd (a := i9) (b := 1) hx hb dL_law_577 ?_
  refine z_sld Z Mz9 hX9 hbl hbA (j := i9 + 1) (by omega) hL2 dL_law_578 ?_
  refine lv_aload_n hx hb dL_law_579 rfl (lv_at hl9 2 rfl) ?_
  refine lv_iload hx hb dL_law_580 (lv_at hl9 1 rfl) ?_
  refine lv_iconst (v := 2) hx hb dL_law_582 (by decide) ?_
  refine zn_iadd (a := i9) (b := 2) hx hb dL_law_583 ?_
  refine z_sld Z Mz9 hX9 hbl hbA (j := i9 + 2) (by omega) hL2 dL_law_584 ?_
  refine lv_aload_n hx hb dL_law_585 rfl (lv_at hl9 2 rfl) ?_
  refine lv_iload hx hb dL_law_586 (lv_at hl9 1 rfl) ?_
  refine lv_iconst (v := 3) hx hb dL_law_588 (by decide) ?_
  refine zn_iadd (a := i9) (b := 3) hx hb dL_law_589 ?_
  refine z_sld Z Mz9 hX9 hbl hbA (j := i9 + 3) (by omega) hL2 dL_law_590 ?_
  obtain ⟨ism, m1, m2, m3⟩ := mid_put3 (mW om am T σ) (ouW out T f' :: Wc' u1)
  refine z_callViP (As := [.int (xs (i9 + 1)), .int (xs (i9 + 2)), .int (xs (i9 + 3))]) (rest := []) (rv := rv) (wc := mW om am T σ) (wG := fun u => mW om am T (σ' u)) zT_k trivial Z Mz9 hm (cwV 3 hts gT_law_X6_heat rfl rfl rfl (by decide +kernel) ⟨Nat.le_trans (Nat.le_of_ble_eq_true rfl) hR.1, Nat.le_trans (Nat.le_of_ble_eq_true rfl) hR.2⟩) ism m1 m2 (fun u j hj => rfl) (fun _ => Nat.le_refl _) (va_recv Z.2.1 Mz9.1 (ci := 7) (q0 := 0) rfl rfl) rfl hl9.1 (Nat.le_of_ble_eq_true rfl) dL_law_591 hroom rfl (fun u2 Hp9 lc9 Mz9 => ?_)
  have Mz9 : zM D A s.heap (mW om am T (σ' u2) ++ (ouW out T f' :: Wc' u1)) _ _ := zM_w (m3 _ rfl) Mz9
  refine lv_istore (lv' := [(6, .int (rv)), (5, .int (k)), (4, .int (nI (i9))), (0, .ref b), (1, .ref o), (2, .ref om), (3, .ref out)]) hx hb dL_law_594 hl9 (by decide) rfl (fun sl9 hl9 => ?_)
  refine lv_aload_n hx hb dL_law_596 rfl (lv_at hl9 5 rfl) ?_
  obtain ⟨ist, t1, t2, t3⟩ := mid_put3 (mW om am T (σ' u2)) (ouW out T f' :: Wc' u1)
  refine z_callVi (As := []) (rest := []) (rv := σ' u2 31 0) (wc := mW om am T (σ' u2)) (wc' := mW om am T (σ' u2)) Z Mz9 (cm_thrown l D T om am (σ' u2)) (cwV 0 hts gT_law_X6_thrown rfl rfl rfl (by decide +kernel) ⟨Nat.le_trans (Nat.le_of_ble_eq_true rfl) hR.1, Nat.le_trans (Nat.le_of_ble_eq_true rfl) hR.2⟩) ist t1 t2 (fun j hj => rfl) (Nat.le_refl _) (va_recv Z.2.1 Mz9.1 (ci := 7) (q0 := 0) rfl rfl) rfl hl9.1 (Nat.le_of_ble_eq_true rfl) dL_law_597 hroom rfl (fun Hp9 lc9 Mz9 => ?_)
  have Mz9 : zM D A s.heap (mW om am T (σ' u2) ++ (ouW out T f' :: Wc' u1)) _ _ := zM_w (t3 _ rfl) Mz9
  refine zn_top (y := k) (h31 u2) ?_
  refine lv_iload hx hb dL_law_600 (lv_at hl9 1 rfl) ?_
  refine lv_icmp_eq (tgt := 607) hx hb dL_law_602 (by decide) (fun _ => ?_) (fun h => absurd h (fun z => z rfl))
  refine lv_iload hx hb dL_law_607 (lv_at hl9 1 rfl) ?_
  refine lv_if_ne (tgt := 624) hx hb dL_law_609 (by decide) (fun c1 => ?_) (fun c1 => ?_)
  ·
    refine lv_goto (tgt := 1784) hx hb dL_law_624 (by decide) ?_
    exact kk u1 u2 _ _ _ Mz9 (lv_sub hl9 [2, 3, 4, 5, 6] rfl)
  ·
    refine lv_aload_n hx hb dL_law_612 rfl (lv_at hl9 6 rfl) ?_
    refine lv_iconst (v := 0) hx hb dL_law_613 (by decide) ?_
    refine va_lald hx hb Z.2.1 Mz9.1 26 2 (cA := T 2) (n := 1) (f := f') rfl rfl (i := 0) (by unfold vp_in; decide) dL_law_614 ?_
    rw [hk c1]
    refine lv_iload hx hb dL_law_615 (lv_at hl9 0 rfl) ?_
    refine lv_i2l (v := rv.toInt64) hx hb dL_law_617 rfl ?_
    refine W.lcmp hx hb dL_law_618 ?_
    rw [lgc]
    refine lv_if_eq (tgt := 624) hx hb dL_law_619 (by decide) (fun _ => ?_) (fun h => absurd h (by decide))
    refine lv_goto (tgt := 1784) hx hb dL_law_624 (by decide) ?_
    exact kk u1 u2 _ _ _ Mz9 (lv_sub hl9 [2, 3, 4, 5, 6] rfl)
set_option maxHeartbeats 4000000 in
set_option maxRecDepth 100000 in
theorem lc_cool (Z : zC p s m args c cL_law 7 RL lw_tbl D T A) (hR : 11 ≤ R.frames ∧ 404 ≤ R.locals) (hXX : zX ea mi sa A s s.heap) (hX9 : va_X b L xs s s.heap) (hbl : b < s.heap.size) (hbA : ¬ A b) (hL2 : L < 2 ^ 31) (hi9 : i9 + 4 < L)
    (hw : ZIH l yL_cool wsL_cool rm (zX ea mi sa) D T (S := S1) (ouW out T f :: Wc) (fun u => ouW out T f' :: Wc' u) [.ref o, .int (xs (i9 + 1)), .int (xs (i9 + 2)), .ref out] k mc ms) (hrm : rm.cells = mc ∧ rm.slots = ms ∧ rm.frames + 1 ≤ 11 ∧ 8 + (5 + 11) + rm.locals ≤ 404) (hf : ∀ (u : S1) (j : Nat), j < (ouW out T f :: Wc).length → ((ouW out T f' :: Wc' u).map Prod.fst)[j]? = ((ouW out T f :: Wc).map Prod.fst)[j]?) (hlen : ∀ u : S1, (ouW out T f :: Wc).length ≤ (ouW out T f' :: Wc' u).length)
    (hm : ZM l yX6_cool wsX6_cool (zrm 2 43) D T (S := S2) (mW om am T σ) (fun u => mW om am T (σ' u)) [.ref om, .int (xs (i9 + 1)), .int (xs (i9 + 2))] rv) (h31 : ∀ u2 : S2, σ' u2 31 0 = k) (hk : k = 0 → f' (0 : Int32).toNatClampNeg = rv.toInt64) (hroom : cells + mc ≤ R.cells ∧ slots + ms ≤ R.slots) (Mz9 : zM D A s.heap (mW om am T σ ++ (ouW out T f :: Wc)) Hp9 lc9) (hl9 : lv_has sl9 7 [(4, .int (nI (i9))), (0, .ref b), (1, .ref o), (2, .ref om), (3, .ref out)])
    (kk : ∀ (u1 : S1) (u2 : S2) (Hp9 : Heap) (lc9 : List Loc) (sl9 : Array Slot), zM D A s.heap (mW om am T (σ' u2) ++ (ouW out T f' :: Wc' u1)) Hp9 lc9 → lv_has sl9 7 [(4, .int (nI (i9))), (0, .ref b), (1, .ref o), (2, .ref om), (3, .ref out)] → W p l e R s m args below meth c Hp9 lc9 (cells + mc) (slots + ms) Q (F0 m 1784 sl9 [])) :
    W p l e R s m args below meth c Hp9 lc9 cells slots Q (F0 m 627 sl9 []) := by
  have hx := Z.1.1
  have hb := Z.1.2.1
  have hts := Z.1.2.2.2.2
  refine lv_aload_n hx hb dL_law_627 rfl (lv_at hl9 2 rfl) ?_
  refine lv_aload_n hx hb dL_law_628 rfl (lv_at hl9 1 rfl) ?_
  refine lv_iload hx hb dL_law_629 (lv_at hl9 0 rfl) ?_
  refine lv_iconst (v := 1) hx hb dL_law_631 (by decide) ?_
  refine zn_iadd (a := i9) (b := 1) hx hb dL_law_632 ?_
  refine z_sld Z Mz9 hX9 hbl hbA (j := i9 + 1) (by omega) hL2 dL_law_633 ?_
  refine lv_aload_n hx hb dL_law_634 rfl (lv_at hl9 1 rfl) ?_
  refine lv_iload hx hb dL_law_635 (lv_at hl9 0 rfl) ?_
  refine lv_iconst (v := 2) hx hb dL_law_637 (by decide) ?_
  refine zn_iadd (a := i9) (b := 2) hx hb dL_law_638 ?_
  refine z_sld Z Mz9 hX9 hbl hbA (j := i9 + 2) (by omega) hL2 dL_law_639 ?_
  refine lv_aload_n hx hb dL_law_640 rfl (lv_at hl9 4 rfl) ?_
  obtain ⟨isw, w1, w2, w3⟩ := mid_put4 (mW om am T σ) (ouW out T f :: Wc)
  refine z_callSWH (As := [.ref o, .int (xs (i9 + 1)), .int (xs (i9 + 2)), .ref out]) (rest := []) (wc := ouW out T f :: Wc) (zX_k ea mi sa) hXX Z Mz9 hw (vx_cwSW 4 hts gT_law_L_cool rfl hrm.1 hrm.2.1 (by decide +kernel) ⟨Nat.le_trans hrm.2.2.1 hR.1, Nat.le_trans hrm.2.2.2 hR.2⟩) isw w1 w2 hf hlen rfl hl9.1 (Nat.le_of_ble_eq_true rfl) dL_law_641 hroom rfl (fun u1 Hp9 lc9 Mz9 => ?_)
  have Mz9 : zM D A s.heap (mW om am T σ ++ (ouW out T f' :: Wc' u1)) _ _ := zM_w (w3 _ (hlen u1)) Mz9
  refine lv_istore (lv' := [(5, .int (k)), (4, .int (nI (i9))), (0, .ref b), (1, .ref o), (2, .ref om), (3, .ref out)]) hx hb dL_law_644 hl9 (by decide) rfl (fun sl9 hl9 => ?_)
  refine lv_aload_n hx hb dL_law_646 rfl (lv_at hl9 4 rfl) ?_
  refine lv_aload_n hx hb dL_law_647 rfl (lv_at hl9 2 rfl) ?_
  refine lv_iload hx hb dL_law_648 (lv_at hl9 1 rfl) ?_
  refine lv_iconst (v := 1) hx hb dL_law_650 (by decide) ?_
  refine zn_iadd (a := i9) (b := 1) hx hb dL_law_651 ?_
  refine z_sld Z Mz9 hX9 hbl hbA (j := i9 + 1) (by omega) hL2 dL_law_652 ?_
  refine lv_aload_n hx hb dL_law_653 rfl (lv_at hl9 2 rfl) ?_
  refine lv_iload hx hb dL_law_654 (lv_at hl9 1 rfl) ?_
  refine lv_iconst (v := 2) hx hb dL_law_656 (by decide) ?_
  refine zn_iadd (a := i9) (b := 2) hx hb dL_law_657 ?_
  refine z_sld Z Mz9 hX9 hbl hbA (j := i9 + 2) (by omega) hL2 dL_law_658 ?_
  obtain ⟨ism, m1, m2, m3⟩ := mid_put3 (mW om am T σ) (ouW out T f' :: Wc' u1)
  refine z_callViP (As := [.int (xs (i9 + 1)), .int (xs (i9 + 2))]) (rest := []) (rv := rv) (wc := mW om am T σ) (wG := fun u => mW om am T (σ' u)) zT_k trivial Z Mz9 hm (cwV 2 hts gT_law_X6_cool rfl rfl rfl (by decide +kernel) ⟨Nat.le_trans (Nat.le_of_ble_eq_true rfl) hR.1, Nat.le_trans (Nat.le_of_ble_eq_true rfl) hR.2⟩) ism m1 m2 (fun u j hj => rfl) (fun _ => Nat.le_refl _) (va_recv Z.2.1 Mz9.1 (ci := 7) (q0 := 0) rfl rfl) rfl hl9.1 (Nat.le_of_ble_eq_true rfl) dL_law_659 hroom rfl (fun u2 Hp9 lc9 Mz9 => ?_)
  have Mz9 : zM D A s.heap (mW om am T (σ' u2) ++ (ouW out T f' :: Wc' u1)) _ _ := zM_w (m3 _ rfl) Mz9
  refine lv_istore (lv' := [(6, .int (rv)), (5, .int (k)), (4, .int (nI (i9))), (0, .ref b), (1, .ref o), (2, .ref om), (3, .ref out)]) hx hb dL_law_662 hl9 (by decide) rfl (fun sl9 hl9 => ?_)
  refine lv_aload_n hx hb dL_law_664 rfl (lv_at hl9 5 rfl) ?_
  obtain ⟨ist, t1, t2, t3⟩ := mid_put3 (mW om am T (σ' u2)) (ouW out T f' :: Wc' u1)
  refine z_callVi (As := []) (rest := []) (rv := σ' u2 31 0) (wc := mW om am T (σ' u2)) (wc' := mW om am T (σ' u2)) Z Mz9 (cm_thrown l D T om am (σ' u2)) (cwV 0 hts gT_law_X6_thrown rfl rfl rfl (by decide +kernel) ⟨Nat.le_trans (Nat.le_of_ble_eq_true rfl) hR.1, Nat.le_trans (Nat.le_of_ble_eq_true rfl) hR.2⟩) ist t1 t2 (fun j hj => rfl) (Nat.le_refl _) (va_recv Z.2.1 Mz9.1 (ci := 7) (q0 := 0) rfl rfl) rfl hl9.1 (Nat.le_of_ble_eq_true rfl) dL_law_665 hroom rfl (fun Hp9 lc9 Mz9 => ?_)
  have Mz9 : zM D A s.heap (mW om am T (σ' u2) ++ (ouW out T f' :: Wc' u1)) _ _ := zM_w (t3 _ rfl) Mz9
  refine zn_top (y := k) (h31 u2) ?_
  refine lv_iload hx hb dL_law_668 (lv_at hl9 1 rfl) ?_
  refine lv_icmp_eq (tgt := 675) hx hb dL_law_670 (by decide) (fun _ => ?_) (fun h => absurd h (fun z => z rfl))
  refine lv_iload hx hb dL_law_675 (lv_at hl9 1 rfl) ?_
  refine lv_if_ne (tgt := 692) hx hb dL_law_677 (by decide) (fun c1 => ?_) (fun c1 => ?_)
  ·
    refine lv_goto (tgt := 1784) hx hb dL_law_692 (by decide) ?_
    exact kk u1 u2 _ _ _ Mz9 (lv_sub hl9 [2, 3, 4, 5, 6] rfl)
  ·
    refine lv_aload_n hx hb dL_law_680 rfl (lv_at hl9 6 rfl) ?_
    refine lv_iconst (v := 0) hx hb dL_law_681 (by decide) ?_
    refine va_lald hx hb Z.2.1 Mz9.1 26 2 (cA := T 2) (n := 1) (f := f') rfl rfl (i := 0) (by unfold vp_in; decide) dL_law_682 ?_
    rw [hk c1]
    refine lv_iload hx hb dL_law_683 (lv_at hl9 0 rfl) ?_
    refine lv_i2l (v := rv.toInt64) hx hb dL_law_685 rfl ?_
    refine W.lcmp hx hb dL_law_686 ?_
    rw [lgc]
    refine lv_if_eq (tgt := 692) hx hb dL_law_687 (by decide) (fun _ => ?_) (fun h => absurd h (by decide))
    refine lv_goto (tgt := 1784) hx hb dL_law_692 (by decide) ?_
    exact kk u1 u2 _ _ _ Mz9 (lv_sub hl9 [2, 3, 4, 5, 6] rfl)
set_option maxHeartbeats 4000000 in
set_option maxRecDepth 100000 in
theorem lc_blow (Z : zC p s m args c cL_law 7 RL lw_tbl D T A) (hR : 11 ≤ R.frames ∧ 404 ≤ R.locals) (hXX : zX ea mi sa A s s.heap) (hX9 : va_X b L xs s s.heap) (hbl : b < s.heap.size) (hbA : ¬ A b) (hL2 : L < 2 ^ 31) (hi9 : i9 + 4 < L)
    (hw : ZIH l yL_blow wsL_blow rm (zX ea mi sa) D T (S := S1) (ouW out T f :: Wc) (fun u => ouW out T f' :: Wc' u) [.ref o, .int (xs (i9 + 1)), .int (xs (i9 + 2)), .int (xs (i9 + 3)), .int (xs (i9 + 4)), .ref out] k mc ms) (hrm : rm.cells = mc ∧ rm.slots = ms ∧ rm.frames + 1 ≤ 11 ∧ 8 + (7 + 11) + rm.locals ≤ 404) (hf : ∀ (u : S1) (j : Nat), j < (ouW out T f :: Wc).length → ((ouW out T f' :: Wc' u).map Prod.fst)[j]? = ((ouW out T f :: Wc).map Prod.fst)[j]?) (hlen : ∀ u : S1, (ouW out T f :: Wc).length ≤ (ouW out T f' :: Wc' u).length)
    (hm : ZM l yX6_blow wsX6_blow (zrm 2 43) D T (S := S2) (mW om am T σ) (fun u => mW om am T (σ' u)) [.ref om, .int (xs (i9 + 1)), .int (xs (i9 + 2)), .int (xs (i9 + 3)), .int (xs (i9 + 4))] rv) (h31 : ∀ u2 : S2, σ' u2 31 0 = k) (hk : k = 0 → f' (0 : Int32).toNatClampNeg = rv.toInt64) (hroom : cells + mc ≤ R.cells ∧ slots + ms ≤ R.slots) (Mz9 : zM D A s.heap (mW om am T σ ++ (ouW out T f :: Wc)) Hp9 lc9) (hl9 : lv_has sl9 7 [(4, .int (nI (i9))), (0, .ref b), (1, .ref o), (2, .ref om), (3, .ref out)])
    (kk : ∀ (u1 : S1) (u2 : S2) (Hp9 : Heap) (lc9 : List Loc) (sl9 : Array Slot), zM D A s.heap (mW om am T (σ' u2) ++ (ouW out T f' :: Wc' u1)) Hp9 lc9 → lv_has sl9 7 [(4, .int (nI (i9))), (0, .ref b), (1, .ref o), (2, .ref om), (3, .ref out)] → W p l e R s m args below meth c Hp9 lc9 (cells + mc) (slots + ms) Q (F0 m 1784 sl9 [])) :
    W p l e R s m args below meth c Hp9 lc9 cells slots Q (F0 m 695 sl9 []) := by
  have hx := Z.1.1
  have hb := Z.1.2.1
  have hts := Z.1.2.2.2.2
  refine lv_aload_n hx hb dL_law_695 rfl (lv_at hl9 2 rfl) ?_
  refine lv_aload_n hx hb dL_law_696 rfl (lv_at hl9 1 rfl) ?_
  refine lv_iload hx hb dL_law_697 (lv_at hl9 0 rfl) ?_
  refine lv_iconst (v := 1) hx hb dL_law_699 (by decide) ?_
  refine zn_iadd (a := i9) (b := 1) hx hb dL_law_700 ?_
  refine z_sld Z Mz9 hX9 hbl hbA (j := i9 + 1) (by omega) hL2 dL_law_701 ?_
  refine lv_aload_n hx hb dL_law_702 rfl (lv_at hl9 1 rfl) ?_
  refine lv_iload hx hb dL_law_703 (lv_at hl9 0 rfl) ?_
  refine lv_iconst (v := 2) hx hb dL_law_705 (by decide) ?_
  refine zn_iadd (a := i9) (b := 2) hx hb dL_law_706 ?_
  refine z_sld Z Mz9 hX9 hbl hbA (j := i9 + 2) (by omega) hL2 dL_law_707 ?_
  refine lv_aload_n hx hb dL_law_708 rfl (lv_at hl9 1 rfl) ?_
  refine lv_iload hx hb dL_law_709 (lv_at hl9 0 rfl) ?_
  refine lv_iconst (v := 3) hx hb dL_law_711 (by decide) ?_
  refine zn_iadd (a := i9) (b := 3) hx hb dL_law_712 ?_
  refine z_sld Z Mz9 hX9 hbl hbA (j := i9 + 3) (by omega) hL2 dL_law_713 ?_
  refine lv_aload_n hx hb dL_law_714 rfl (lv_at hl9 1 rfl) ?_
  refine lv_iload hx hb dL_law_715 (lv_at hl9 0 rfl) ?_
  refine lv_iconst (v := 4) hx hb dL_law_717 (by decide) ?_
  refine zn_iadd (a := i9) (b := 4) hx hb dL_law_718 ?_
  refine z_sld Z Mz9 hX9 hbl hbA (j := i9 + 4) (by omega) hL2 dL_law_719 ?_
  refine lv_aload_n hx hb dL_law_720 rfl (lv_at hl9 4 rfl) ?_
  obtain ⟨isw, w1, w2, w3⟩ := mid_put4 (mW om am T σ) (ouW out T f :: Wc)
  refine z_callSWH (As := [.ref o, .int (xs (i9 + 1)), .int (xs (i9 + 2)), .int (xs (i9 + 3)), .int (xs (i9 + 4)), .ref out]) (rest := []) (wc := ouW out T f :: Wc) (zX_k ea mi sa) hXX Z Mz9 hw (vx_cwSW 6 hts gT_law_L_blow rfl hrm.1 hrm.2.1 (by decide +kernel) ⟨Nat.le_trans hrm.2.2.1 hR.1, Nat.le_trans hrm.2.2.2 hR.2⟩) isw w1 w2 hf hlen rfl hl9.1 (Nat.le_of_ble_eq_true rfl) dL_law_721 hroom rfl (fun u1 Hp9 lc9 Mz9 => ?_)
  have Mz9 : zM D A s.heap (mW om am T σ ++ (ouW out T f' :: Wc' u1)) _ _ := zM_w (w3 _ (hlen u1)) Mz9
  refine lv_istore (lv' := [(5, .int (k)), (4, .int (nI (i9))), (0, .ref b), (1, .ref o), (2, .ref om), (3, .ref out)]) hx hb dL_law_724 hl9 (by decide) rfl (fun sl9 hl9 => ?_)
  refine lv_aload_n hx hb dL_law_726 rfl (lv_at hl9 4 rfl) ?_
  refine lv_aload_n hx hb dL_law_727 rfl (lv_at hl9 2 rfl) ?_
  refine lv_iload hx hb dL_law_728 (lv_at hl9 1 rfl) ?_
  refine lv_iconst (v := 1) hx hb dL_law_730 (by decide) ?_
  refine zn_iadd (a := i9) (b := 1) hx hb dL_law_731 ?_
  refine z_sld Z Mz9 hX9 hbl hbA (j := i9 + 1) (by omega) hL2 dL_law_732 ?_
  refine lv_aload_n hx hb dL_law_733 rfl (lv_at hl9 2 rfl) ?_
  refine lv_iload hx hb dL_law_734 (lv_at hl9 1 rfl) ?_
  refine lv_iconst (v := 2) hx hb dL_law_736 (by decide) ?_
  refine zn_iadd (a := i9) (b := 2) hx hb dL_law_737 ?_
  refine z_sld Z Mz9 hX9 hbl hbA (j := i9 + 2) (by omega) hL2 dL_law_738 ?_
  refine lv_aload_n hx hb dL_law_739 rfl (lv_at hl9 2 rfl) ?_
  refine lv_iload hx hb dL_law_740 (lv_at hl9 1 rfl) ?_
  refine lv_iconst (v := 3) hx hb dL_law_742 (by decide) ?_
  refine zn_iadd (a := i9) (b := 3) hx hb dL_law_743 ?_
  refine z_sld Z Mz9 hX9 hbl hbA (j := i9 + 3) (by omega) hL2 dL_law_744 ?_
  refine lv_aload_n hx hb dL_law_745 rfl (lv_at hl9 2 rfl) ?_
  refine lv_iload hx hb dL_law_746 (lv_at hl9 1 rfl) ?_
  refine lv_iconst (v := 4) hx hb dL_law_748 (by decide) ?_
  refine zn_iadd (a := i9) (b := 4) hx hb dL_law_749 ?_
  refine z_sld Z Mz9 hX9 hbl hbA (j := i9 + 4) (by omega) hL2 dL_law_750 ?_
  obtain ⟨ism, m1, m2, m3⟩ := mid_put3 (mW om am T σ) (ouW out T f' :: Wc' u1)
  refine z_callViP (As := [.int (xs (i9 + 1)), .int (xs (i9 + 2)), .int (xs (i9 + 3)), .int (xs (i9 + 4))]) (rest := []) (rv := rv) (wc := mW om am T σ) (wG := fun u => mW om am T (σ' u)) zT_k trivial Z Mz9 hm (cwV 4 hts gT_law_X6_blow rfl rfl rfl (by decide +kernel) ⟨Nat.le_trans (Nat.le_of_ble_eq_true rfl) hR.1, Nat.le_trans (Nat.le_of_ble_eq_true rfl) hR.2⟩) ism m1 m2 (fun u j hj => rfl) (fun _ => Nat.le_refl _) (va_recv Z.2.1 Mz9.1 (ci := 7) (q0 := 0) rfl rfl) rfl hl9.1 (Nat.le_of_ble_eq_true rfl) dL_law_751 hroom rfl (fun u2 Hp9 lc9 Mz9 => ?_)
  have Mz9 : zM D A s.heap (mW om am T (σ' u2) ++ (ouW out T f' :: Wc' u1)) _ _ := zM_w (m3 _ rfl) Mz9
  refine lv_istore (lv' := [(6, .int (rv)), (5, .int (k)), (4, .int (nI (i9))), (0, .ref b), (1, .ref o), (2, .ref om), (3, .ref out)]) hx hb dL_law_754 hl9 (by decide) rfl (fun sl9 hl9 => ?_)
  refine lv_aload_n hx hb dL_law_756 rfl (lv_at hl9 5 rfl) ?_
  obtain ⟨ist, t1, t2, t3⟩ := mid_put3 (mW om am T (σ' u2)) (ouW out T f' :: Wc' u1)
  refine z_callVi (As := []) (rest := []) (rv := σ' u2 31 0) (wc := mW om am T (σ' u2)) (wc' := mW om am T (σ' u2)) Z Mz9 (cm_thrown l D T om am (σ' u2)) (cwV 0 hts gT_law_X6_thrown rfl rfl rfl (by decide +kernel) ⟨Nat.le_trans (Nat.le_of_ble_eq_true rfl) hR.1, Nat.le_trans (Nat.le_of_ble_eq_true rfl) hR.2⟩) ist t1 t2 (fun j hj => rfl) (Nat.le_refl _) (va_recv Z.2.1 Mz9.1 (ci := 7) (q0 := 0) rfl rfl) rfl hl9.1 (Nat.le_of_ble_eq_true rfl) dL_law_757 hroom rfl (fun Hp9 lc9 Mz9 => ?_)
  have Mz9 : zM D A s.heap (mW om am T (σ' u2) ++ (ouW out T f' :: Wc' u1)) _ _ := zM_w (t3 _ rfl) Mz9
  refine zn_top (y := k) (h31 u2) ?_
  refine lv_iload hx hb dL_law_760 (lv_at hl9 1 rfl) ?_
  refine lv_icmp_eq (tgt := 767) hx hb dL_law_762 (by decide) (fun _ => ?_) (fun h => absurd h (fun z => z rfl))
  refine lv_iload hx hb dL_law_767 (lv_at hl9 1 rfl) ?_
  refine lv_if_ne (tgt := 784) hx hb dL_law_769 (by decide) (fun c1 => ?_) (fun c1 => ?_)
  ·
    refine lv_goto (tgt := 1784) hx hb dL_law_784 (by decide) ?_
    exact kk u1 u2 _ _ _ Mz9 (lv_sub hl9 [2, 3, 4, 5, 6] rfl)
  ·
    refine lv_aload_n hx hb dL_law_772 rfl (lv_at hl9 6 rfl) ?_
    refine lv_iconst (v := 0) hx hb dL_law_773 (by decide) ?_
    refine va_lald hx hb Z.2.1 Mz9.1 26 2 (cA := T 2) (n := 1) (f := f') rfl rfl (i := 0) (by unfold vp_in; decide) dL_law_774 ?_
    rw [hk c1]
    refine lv_iload hx hb dL_law_775 (lv_at hl9 0 rfl) ?_
    refine lv_i2l (v := rv.toInt64) hx hb dL_law_777 rfl ?_
    refine W.lcmp hx hb dL_law_778 ?_
    rw [lgc]
    refine lv_if_eq (tgt := 784) hx hb dL_law_779 (by decide) (fun _ => ?_) (fun h => absurd h (by decide))
    refine lv_goto (tgt := 1784) hx hb dL_law_784 (by decide) ?_
    exact kk u1 u2 _ _ _ Mz9 (lv_sub hl9 [2, 3, 4, 5, 6] rfl)
set_option maxHeartbeats 4000000 in
set_option maxRecDepth 100000 in
theorem lc_cut (Z : zC p s m args c cL_law 7 RL lw_tbl D T A) (hR : 11 ≤ R.frames ∧ 404 ≤ R.locals) (hXX : zX ea mi sa A s s.heap) (hX9 : va_X b L xs s s.heap) (hbl : b < s.heap.size) (hbA : ¬ A b) (hL2 : L < 2 ^ 31) (hi9 : i9 + 4 < L)
    (hw : ZIH l yL_cut wsL_cut rm (zX ea mi sa) D T (S := S1) (ouW out T f :: Wc) (fun u => ouW out T f' :: Wc' u) [.ref o, .int (xs (i9 + 1)), .int (xs (i9 + 2)), .int (xs (i9 + 3)), .ref out] k mc ms) (hrm : rm.cells = mc ∧ rm.slots = ms ∧ rm.frames + 1 ≤ 11 ∧ 8 + (6 + 11) + rm.locals ≤ 404) (hf : ∀ (u : S1) (j : Nat), j < (ouW out T f :: Wc).length → ((ouW out T f' :: Wc' u).map Prod.fst)[j]? = ((ouW out T f :: Wc).map Prod.fst)[j]?) (hlen : ∀ u : S1, (ouW out T f :: Wc).length ≤ (ouW out T f' :: Wc' u).length)
    (hm : ZM l yX6_cut wsX6_cut (zrm 2 43) D T (S := S2) (mW om am T σ) (fun u => mW om am T (σ' u)) [.ref om, .int (xs (i9 + 1)), .int (xs (i9 + 2)), .int (xs (i9 + 3))] rv) (h31 : ∀ u2 : S2, σ' u2 31 0 = k) (hk : k = 0 → f' (0 : Int32).toNatClampNeg = rv.toInt64) (hroom : cells + mc ≤ R.cells ∧ slots + ms ≤ R.slots) (Mz9 : zM D A s.heap (mW om am T σ ++ (ouW out T f :: Wc)) Hp9 lc9) (hl9 : lv_has sl9 7 [(4, .int (nI (i9))), (0, .ref b), (1, .ref o), (2, .ref om), (3, .ref out)])
    (kk : ∀ (u1 : S1) (u2 : S2) (Hp9 : Heap) (lc9 : List Loc) (sl9 : Array Slot), zM D A s.heap (mW om am T (σ' u2) ++ (ouW out T f' :: Wc' u1)) Hp9 lc9 → lv_has sl9 7 [(4, .int (nI (i9))), (0, .ref b), (1, .ref o), (2, .ref om), (3, .ref out)] → W p l e R s m args below meth c Hp9 lc9 (cells + mc) (slots + ms) Q (F0 m 1784 sl9 [])) :
    W p l e R s m args below meth c Hp9 lc9 cells slots Q (F0 m 787 sl9 []) := by
  have hx := Z.1.1
  have hb := Z.1.2.1
  have hts := Z.1.2.2.2.2
  refine lv_aload_n hx hb dL_law_787 rfl (lv_at hl9 2 rfl) ?_
  refine lv_aload_n hx hb dL_law_788 rfl (lv_at hl9 1 rfl) ?_
  refine lv_iload hx hb dL_law_789 (lv_at hl9 0 rfl) ?_
  refine lv_iconst (v := 1) hx hb dL_law_791 (by decide) ?_
  refine zn_iadd (a := i9) (b := 1) hx hb dL_law_792 ?_
  refine z_sld Z Mz9 hX9 hbl hbA (j := i9 + 1) (by omega) hL2 dL_law_793 ?_
  refine lv_aload_n hx hb dL_law_794 rfl (lv_at hl9 1 rfl) ?_
  refine lv_iload hx hb dL_law_795 (lv_at hl9 0 rfl) ?_
  refine lv_iconst (v := 2) hx hb dL_law_797 (by decide) ?_
  refine zn_iadd (a := i9) (b := 2) hx hb dL_law_798 ?_
  refine z_sld Z Mz9 hX9 hbl hbA (j := i9 + 2) (by omega) hL2 dL_law_799 ?_
  refine lv_aload_n hx hb dL_law_800 rfl (lv_at hl9 1 rfl) ?_
  refine lv_iload hx hb dL_law_801 (lv_at hl9 0 rfl) ?_
  refine lv_iconst (v := 3) hx hb dL_law_803 (by decide) ?_
  refine zn_iadd (a := i9) (b := 3) hx hb dL_law_804 ?_
  refine z_sld Z Mz9 hX9 hbl hbA (j := i9 + 3) (by omega) hL2 dL_law_805 ?_
  refine lv_aload_n hx hb dL_law_806 rfl (lv_at hl9 4 rfl) ?_
  obtain ⟨isw, w1, w2, w3⟩ := mid_put4 (mW om am T σ) (ouW out T f :: Wc)
  refine z_callSWH (As := [.ref o, .int (xs (i9 + 1)), .int (xs (i9 + 2)), .int (xs (i9 + 3)), .ref out]) (rest := []) (wc := ouW out T f :: Wc) (zX_k ea mi sa) hXX Z Mz9 hw (vx_cwSW 5 hts gT_law_L_cut rfl hrm.1 hrm.2.1 (by decide +kernel) ⟨Nat.le_trans hrm.2.2.1 hR.1, Nat.le_trans hrm.2.2.2 hR.2⟩) isw w1 w2 hf hlen rfl hl9.1 (Nat.le_of_ble_eq_true rfl) dL_law_807 hroom rfl (fun u1 Hp9 lc9 Mz9 => ?_)
  have Mz9 : zM D A s.heap (mW om am T σ ++ (ouW out T f' :: Wc' u1)) _ _ := zM_w (w3 _ (hlen u1)) Mz9
  refine lv_istore (lv' := [(5, .int (k)), (4, .int (nI (i9))), (0, .ref b), (1, .ref o), (2, .ref om), (3, .ref out)]) hx hb dL_law_810 hl9 (by decide) rfl (fun sl9 hl9 => ?_)
  refine lv_aload_n hx hb dL_law_812 rfl (lv_at hl9 4 rfl) ?_
  refine lv_aload_n hx hb dL_law_813 rfl (lv_at hl9 2 rfl) ?_
  refine lv_iload hx hb dL_law_814 (lv_at hl9 1 rfl) ?_
  refine lv_iconst (v := 1) hx hb dL_law_816 (by decide) ?_
  refine zn_iadd (a := i9) (b := 1) hx hb dL_law_817 ?_
  refine z_sld Z Mz9 hX9 hbl hbA (j := i9 + 1) (by omega) hL2 dL_law_818 ?_
  refine lv_aload_n hx hb dL_law_819 rfl (lv_at hl9 2 rfl) ?_
  refine lv_iload hx hb dL_law_820 (lv_at hl9 1 rfl) ?_
  refine lv_iconst (v := 2) hx hb dL_law_822 (by decide) ?_
  refine zn_iadd (a := i9) (b := 2) hx hb dL_law_823 ?_
  refine z_sld Z Mz9 hX9 hbl hbA (j := i9 + 2) (by omega) hL2 dL_law_824 ?_
  refine lv_aload_n hx hb dL_law_825 rfl (lv_at hl9 2 rfl) ?_
  refine lv_iload hx hb dL_law_826 (lv_at hl9 1 rfl) ?_
  refine lv_iconst (v := 3) hx hb dL_law_828 (by decide) ?_
  refine zn_iadd (a := i9) (b := 3) hx hb dL_law_829 ?_
  refine z_sld Z Mz9 hX9 hbl hbA (j := i9 + 3) (by omega) hL2 dL_law_830 ?_
  obtain ⟨ism, m1, m2, m3⟩ := mid_put3 (mW om am T σ) (ouW out T f' :: Wc' u1)
  refine z_callViP (As := [.int (xs (i9 + 1)), .int (xs (i9 + 2)), .int (xs (i9 + 3))]) (rest := []) (rv := rv) (wc := mW om am T σ) (wG := fun u => mW om am T (σ' u)) zT_k trivial Z Mz9 hm (cwV 3 hts gT_law_X6_cut rfl rfl rfl (by decide +kernel) ⟨Nat.le_trans (Nat.le_of_ble_eq_true rfl) hR.1, Nat.le_trans (Nat.le_of_ble_eq_true rfl) hR.2⟩) ism m1 m2 (fun u j hj => rfl) (fun _ => Nat.le_refl _) (va_recv Z.2.1 Mz9.1 (ci := 7) (q0 := 0) rfl rfl) rfl hl9.1 (Nat.le_of_ble_eq_true rfl) dL_law_831 hroom rfl (fun u2 Hp9 lc9 Mz9 => ?_)
  have Mz9 : zM D A s.heap (mW om am T (σ' u2) ++ (ouW out T f' :: Wc' u1)) _ _ := zM_w (m3 _ rfl) Mz9
  refine lv_istore (lv' := [(6, .int (rv)), (5, .int (k)), (4, .int (nI (i9))), (0, .ref b), (1, .ref o), (2, .ref om), (3, .ref out)]) hx hb dL_law_834 hl9 (by decide) rfl (fun sl9 hl9 => ?_)
  refine lv_aload_n hx hb dL_law_836 rfl (lv_at hl9 5 rfl) ?_
  obtain ⟨ist, t1, t2, t3⟩ := mid_put3 (mW om am T (σ' u2)) (ouW out T f' :: Wc' u1)
  refine z_callVi (As := []) (rest := []) (rv := σ' u2 31 0) (wc := mW om am T (σ' u2)) (wc' := mW om am T (σ' u2)) Z Mz9 (cm_thrown l D T om am (σ' u2)) (cwV 0 hts gT_law_X6_thrown rfl rfl rfl (by decide +kernel) ⟨Nat.le_trans (Nat.le_of_ble_eq_true rfl) hR.1, Nat.le_trans (Nat.le_of_ble_eq_true rfl) hR.2⟩) ist t1 t2 (fun j hj => rfl) (Nat.le_refl _) (va_recv Z.2.1 Mz9.1 (ci := 7) (q0 := 0) rfl rfl) rfl hl9.1 (Nat.le_of_ble_eq_true rfl) dL_law_837 hroom rfl (fun Hp9 lc9 Mz9 => ?_)
  have Mz9 : zM D A s.heap (mW om am T (σ' u2) ++ (ouW out T f' :: Wc' u1)) _ _ := zM_w (t3 _ rfl) Mz9
  refine zn_top (y := k) (h31 u2) ?_
  refine lv_iload hx hb dL_law_840 (lv_at hl9 1 rfl) ?_
  refine lv_icmp_eq (tgt := 847) hx hb dL_law_842 (by decide) (fun _ => ?_) (fun h => absurd h (fun z => z rfl))
  refine lv_iload hx hb dL_law_847 (lv_at hl9 1 rfl) ?_
  refine lv_if_ne (tgt := 864) hx hb dL_law_849 (by decide) (fun c1 => ?_) (fun c1 => ?_)
  ·
    refine lv_goto (tgt := 1784) hx hb dL_law_864 (by decide) ?_
    exact kk u1 u2 _ _ _ Mz9 (lv_sub hl9 [2, 3, 4, 5, 6] rfl)
  ·
    refine lv_aload_n hx hb dL_law_852 rfl (lv_at hl9 6 rfl) ?_
    refine lv_iconst (v := 0) hx hb dL_law_853 (by decide) ?_
    refine va_lald hx hb Z.2.1 Mz9.1 26 2 (cA := T 2) (n := 1) (f := f') rfl rfl (i := 0) (by unfold vp_in; decide) dL_law_854 ?_
    rw [hk c1]
    refine lv_iload hx hb dL_law_855 (lv_at hl9 0 rfl) ?_
    refine lv_i2l (v := rv.toInt64) hx hb dL_law_857 rfl ?_
    refine W.lcmp hx hb dL_law_858 ?_
    rw [lgc]
    refine lv_if_eq (tgt := 864) hx hb dL_law_859 (by decide) (fun _ => ?_) (fun h => absurd h (by decide))
    refine lv_goto (tgt := 1784) hx hb dL_law_864 (by decide) ?_
    exact kk u1 u2 _ _ _ Mz9 (lv_sub hl9 [2, 3, 4, 5, 6] rfl)
set_option maxHeartbeats 4000000 in
set_option maxRecDepth 100000 in
theorem lc_die (Z : zC p s m args c cL_law 7 RL lw_tbl D T A) (hR : 11 ≤ R.frames ∧ 404 ≤ R.locals) (hXX : zX ea mi sa A s s.heap) (hX9 : va_X b L xs s s.heap) (hbl : b < s.heap.size) (hbA : ¬ A b) (hL2 : L < 2 ^ 31) (hi9 : i9 + 4 < L)
    (hw : ZIH l yL_die wsL_die rm (zX ea mi sa) D T (S := S1) (ouW out T f :: Wc) (fun u => ouW out T f' :: Wc' u) [.ref o, .ref out] k mc ms) (hrm : rm.cells = mc ∧ rm.slots = ms ∧ rm.frames + 1 ≤ 11 ∧ 8 + (3 + 11) + rm.locals ≤ 404) (hf : ∀ (u : S1) (j : Nat), j < (ouW out T f :: Wc).length → ((ouW out T f' :: Wc' u).map Prod.fst)[j]? = ((ouW out T f :: Wc).map Prod.fst)[j]?) (hlen : ∀ u : S1, (ouW out T f :: Wc).length ≤ (ouW out T f' :: Wc' u).length)
    (hm : ZM l yX6_die wsX6_die (zrm 1 23) D T (S := S2) (mW om am T σ) (fun u => mW om am T (σ' u)) [.ref om] rv) (h31 : ∀ u2 : S2, σ' u2 31 0 = k) (hk : k = 0 → f' (0 : Int32).toNatClampNeg = rv.toInt64) (hroom : cells + mc ≤ R.cells ∧ slots + ms ≤ R.slots) (Mz9 : zM D A s.heap (mW om am T σ ++ (ouW out T f :: Wc)) Hp9 lc9) (hl9 : lv_has sl9 7 [(4, .int (nI (i9))), (0, .ref b), (1, .ref o), (2, .ref om), (3, .ref out)])
    (kk : ∀ (u1 : S1) (u2 : S2) (Hp9 : Heap) (lc9 : List Loc) (sl9 : Array Slot), zM D A s.heap (mW om am T (σ' u2) ++ (ouW out T f' :: Wc' u1)) Hp9 lc9 → lv_has sl9 7 [(4, .int (nI (i9))), (0, .ref b), (1, .ref o), (2, .ref om), (3, .ref out)] → W p l e R s m args below meth c Hp9 lc9 (cells + mc) (slots + ms) Q (F0 m 1784 sl9 [])) :
    W p l e R s m args below meth c Hp9 lc9 cells slots Q (F0 m 867 sl9 []) := by
  have hx := Z.1.1
  have hb := Z.1.2.1
  have hts := Z.1.2.2.2.2
  refine lv_aload_n hx hb dL_law_867 rfl (lv_at hl9 2 rfl) ?_
  refine lv_aload_n hx hb dL_law_868 rfl (lv_at hl9 4 rfl) ?_
  obtain ⟨isw, w1, w2, w3⟩ := mid_put4 (mW om am T σ) (ouW out T f :: Wc)
  refine z_callSWH (As := [.ref o, .ref out]) (rest := []) (wc := ouW out T f :: Wc) (zX_k ea mi sa) hXX Z Mz9 hw (vx_cwSW 2 hts gT_law_L_die rfl hrm.1 hrm.2.1 (by decide +kernel) ⟨Nat.le_trans hrm.2.2.1 hR.1, Nat.le_trans hrm.2.2.2 hR.2⟩) isw w1 w2 hf hlen rfl hl9.1 (Nat.le_of_ble_eq_true rfl) dL_law_869 hroom rfl (fun u1 Hp9 lc9 Mz9 => ?_)
  have Mz9 : zM D A s.heap (mW om am T σ ++ (ouW out T f' :: Wc' u1)) _ _ := zM_w (w3 _ (hlen u1)) Mz9
  refine lv_istore (lv' := [(5, .int (k)), (4, .int (nI (i9))), (0, .ref b), (1, .ref o), (2, .ref om), (3, .ref out)]) hx hb dL_law_872 hl9 (by decide) rfl (fun sl9 hl9 => ?_)
  refine lv_aload_n hx hb dL_law_874 rfl (lv_at hl9 4 rfl) ?_
  obtain ⟨ism, m1, m2, m3⟩ := mid_put3 (mW om am T σ) (ouW out T f' :: Wc' u1)
  refine z_callViP (As := []) (rest := []) (rv := rv) (wc := mW om am T σ) (wG := fun u => mW om am T (σ' u)) zT_k trivial Z Mz9 hm (cwV 0 hts gT_law_X6_die rfl rfl rfl (by decide +kernel) ⟨Nat.le_trans (Nat.le_of_ble_eq_true rfl) hR.1, Nat.le_trans (Nat.le_of_ble_eq_true rfl) hR.2⟩) ism m1 m2 (fun u j hj => rfl) (fun _ => Nat.le_refl _) (va_recv Z.2.1 Mz9.1 (ci := 7) (q0 := 0) rfl rfl) rfl hl9.1 (Nat.le_of_ble_eq_true rfl) dL_law_875 hroom rfl (fun u2 Hp9 lc9 Mz9 => ?_)
  have Mz9 : zM D A s.heap (mW om am T (σ' u2) ++ (ouW out T f' :: Wc' u1)) _ _ := zM_w (m3 _ rfl) Mz9
  refine lv_istore (lv' := [(6, .int (rv)), (5, .int (k)), (4, .int (nI (i9))), (0, .ref b), (1, .ref o), (2, .ref om), (3, .ref out)]) hx hb dL_law_878 hl9 (by decide) rfl (fun sl9 hl9 => ?_)
  refine lv_aload_n hx hb dL_law_880 rfl (lv_at hl9 5 rfl) ?_
  obtain ⟨ist, t1, t2, t3⟩ := mid_put3 (mW om am T (σ' u2)) (ouW out T f' :: Wc' u1)
  refine z_callVi (As := []) (rest := []) (rv := σ' u2 31 0) (wc := mW om am T (σ' u2)) (wc' := mW om am T (σ' u2)) Z Mz9 (cm_thrown l D T om am (σ' u2)) (cwV 0 hts gT_law_X6_thrown rfl rfl rfl (by decide +kernel) ⟨Nat.le_trans (Nat.le_of_ble_eq_true rfl) hR.1, Nat.le_trans (Nat.le_of_ble_eq_true rfl) hR.2⟩) ist t1 t2 (fun j hj => rfl) (Nat.le_refl _) (va_recv Z.2.1 Mz9.1 (ci := 7) (q0 := 0) rfl rfl) rfl hl9.1 (Nat.le_of_ble_eq_true rfl) dL_law_881 hroom rfl (fun Hp9 lc9 Mz9 => ?_)
  have Mz9 : zM D A s.heap (mW om am T (σ' u2) ++ (ouW out T f' :: Wc' u1)) _ _ := zM_w (t3 _ rfl) Mz9
  refine zn_top (y := k) (h31 u2) ?_
  refine lv_iload hx hb dL_law_884 (lv_at hl9 1 rfl) ?_
  refine lv_icmp_eq (tgt := 891) hx hb dL_law_886 (by decide) (fun _ => ?_) (fun h => absurd h (fun z => z rfl))
  refine lv_iload hx hb dL_law_891 (lv_at hl9 1 rfl) ?_
  refine lv_if_ne (tgt := 908) hx hb dL_law_893 (by decide) (fun c1 => ?_) (fun c1 => ?_)
  ·
    refine lv_goto (tgt := 1784) hx hb dL_law_908 (by decide) ?_
    exact kk u1 u2 _ _ _ Mz9 (lv_sub hl9 [2, 3, 4, 5, 6] rfl)
  ·
    refine lv_aload_n hx hb dL_law_896 rfl (lv_at hl9 6 rfl) ?_
    refine lv_iconst (v := 0) hx hb dL_law_897 (by decide) ?_
    refine va_lald hx hb Z.2.1 Mz9.1 26 2 (cA := T 2) (n := 1) (f := f') rfl rfl (i := 0) (by unfold vp_in; decide) dL_law_898 ?_
    rw [hk c1]
    refine lv_iload hx hb dL_law_899 (lv_at hl9 0 rfl) ?_
    refine lv_i2l (v := rv.toInt64) hx hb dL_law_901 rfl ?_
    refine W.lcmp hx hb dL_law_902 ?_
    rw [lgc]
    refine lv_if_eq (tgt := 908) hx hb dL_law_903 (by decide) (fun _ => ?_) (fun h => absurd h (by decide))
    refine lv_goto (tgt := 1784) hx hb dL_law_908 (by decide) ?_
    exact kk u1 u2 _ _ _ Mz9 (lv_sub hl9 [2, 3, 4, 5, 6] rfl)
set_option maxHeartbeats 4000000 in
set_option maxRecDepth 100000 in
theorem lc_shape (Z : zC p s m args c cL_law 7 RL lw_tbl D T A) (hR : 11 ≤ R.frames ∧ 404 ≤ R.locals) (hXX : zX ea mi sa A s s.heap) (hX9 : va_X b L xs s s.heap) (hbl : b < s.heap.size) (hbA : ¬ A b) (hL2 : L < 2 ^ 31) (hi9 : i9 + 4 < L)
    (hw : ZIH l yL_shape wsL_shape rm (zX ea mi sa) D T (S := S1) (ouW out T f :: Wc) (fun u => ouW out T f' :: Wc' u) [.ref o, .int (xs (i9 + 1)), .int (xs (i9 + 2)), .int (xs (i9 + 3)), .ref out] k mc ms) (hrm : rm.cells = mc ∧ rm.slots = ms ∧ rm.frames + 1 ≤ 11 ∧ 8 + (6 + 11) + rm.locals ≤ 404) (hf : ∀ (u : S1) (j : Nat), j < (ouW out T f :: Wc).length → ((ouW out T f' :: Wc' u).map Prod.fst)[j]? = ((ouW out T f :: Wc).map Prod.fst)[j]?) (hlen : ∀ u : S1, (ouW out T f :: Wc).length ≤ (ouW out T f' :: Wc' u).length)
    (hm : ZM l yX6_shape wsX6_shape (zrm 2 43) D T (S := S2) (mW om am T σ) (fun u => mW om am T (σ' u)) [.ref om, .int (xs (i9 + 1)), .int (xs (i9 + 2)), .int (xs (i9 + 3))] rv) (h31 : ∀ u2 : S2, σ' u2 31 0 = k) (hk : k = 0 → f' (0 : Int32).toNatClampNeg = rv.toInt64) (hroom : cells + mc ≤ R.cells ∧ slots + ms ≤ R.slots) (Mz9 : zM D A s.heap (mW om am T σ ++ (ouW out T f :: Wc)) Hp9 lc9) (hl9 : lv_has sl9 7 [(4, .int (nI (i9))), (0, .ref b), (1, .ref o), (2, .ref om), (3, .ref out)])
    (kk : ∀ (u1 : S1) (u2 : S2) (Hp9 : Heap) (lc9 : List Loc) (sl9 : Array Slot), zM D A s.heap (mW om am T (σ' u2) ++ (ouW out T f' :: Wc' u1)) Hp9 lc9 → lv_has sl9 7 [(4, .int (nI (i9))), (0, .ref b), (1, .ref o), (2, .ref om), (3, .ref out)] → W p l e R s m args below meth c Hp9 lc9 (cells + mc) (slots + ms) Q (F0 m 1784 sl9 [])) :
    W p l e R s m args below meth c Hp9 lc9 cells slots Q (F0 m 911 sl9 []) := by
  have hx := Z.1.1
  have hb := Z.1.2.1
  have hts := Z.1.2.2.2.2
  refine lv_aload_n hx hb dL_law_911 rfl (lv_at hl9 2 rfl) ?_
  refine lv_aload_n hx hb dL_law_912 rfl (lv_at hl9 1 rfl) ?_
  refine lv_iload hx hb dL_law_913 (lv_at hl9 0 rfl) ?_
  refine lv_iconst (v := 1) hx hb dL_law_915 (by decide) ?_
  refine zn_iadd (a := i9) (b := 1) hx hb dL_law_916 ?_
  refine z_sld Z Mz9 hX9 hbl hbA (j := i9 + 1) (by omega) hL2 dL_law_917 ?_
  refine lv_aload_n hx hb dL_law_918 rfl (lv_at hl9 1 rfl) ?_
  refine lv_iload hx hb dL_law_919 (lv_at hl9 0 rfl) ?_
  refine lv_iconst (v := 2) hx hb dL_law_921 (by decide) ?_
  refine zn_iadd (a := i9) (b := 2) hx hb dL_law_922 ?_
  refine z_sld Z Mz9 hX9 hbl hbA (j := i9 + 2) (by omega) hL2 dL_law_923 ?_
  refine lv_aload_n hx hb dL_law_924 rfl (lv_at hl9 1 rfl) ?_
  refine lv_iload hx hb dL_law_925 (lv_at hl9 0 rfl) ?_
  refine lv_iconst (v := 3) hx hb dL_law_927 (by decide) ?_
  refine zn_iadd (a := i9) (b := 3) hx hb dL_law_928 ?_
  refine z_sld Z Mz9 hX9 hbl hbA (j := i9 + 3) (by omega) hL2 dL_law_929 ?_
  refine lv_aload_n hx hb dL_law_930 rfl (lv_at hl9 4 rfl) ?_
  obtain ⟨isw, w1, w2, w3⟩ := mid_put4 (mW om am T σ) (ouW out T f :: Wc)
  refine z_callSWH (As := [.ref o, .int (xs (i9 + 1)), .int (xs (i9 + 2)), .int (xs (i9 + 3)), .ref out]) (rest := []) (wc := ouW out T f :: Wc) (zX_k ea mi sa) hXX Z Mz9 hw (vx_cwSW 5 hts gT_law_L_shape rfl hrm.1 hrm.2.1 (by decide +kernel) ⟨Nat.le_trans hrm.2.2.1 hR.1, Nat.le_trans hrm.2.2.2 hR.2⟩) isw w1 w2 hf hlen rfl hl9.1 (Nat.le_of_ble_eq_true rfl) dL_law_931 hroom rfl (fun u1 Hp9 lc9 Mz9 => ?_)
  have Mz9 : zM D A s.heap (mW om am T σ ++ (ouW out T f' :: Wc' u1)) _ _ := zM_w (w3 _ (hlen u1)) Mz9
  refine lv_istore (lv' := [(5, .int (k)), (4, .int (nI (i9))), (0, .ref b), (1, .ref o), (2, .ref om), (3, .ref out)]) hx hb dL_law_934 hl9 (by decide) rfl (fun sl9 hl9 => ?_)
  refine lv_aload_n hx hb dL_law_936 rfl (lv_at hl9 4 rfl) ?_
  refine lv_aload_n hx hb dL_law_937 rfl (lv_at hl9 2 rfl) ?_
  refine lv_iload hx hb dL_law_938 (lv_at hl9 1 rfl) ?_
  refine lv_iconst (v := 1) hx hb dL_law_940 (by decide) ?_
  refine zn_iadd (a := i9) (b := 1) hx hb dL_law_941 ?_
  refine z_sld Z Mz9 hX9 hbl hbA (j := i9 + 1) (by omega) hL2 dL_law_942 ?_
  refine lv_aload_n hx hb dL_law_943 rfl (lv_at hl9 2 rfl) ?_
  refine lv_iload hx hb dL_law_944 (lv_at hl9 1 rfl) ?_
  refine lv_iconst (v := 2) hx hb dL_law_946 (by decide) ?_
  refine zn_iadd (a := i9) (b := 2) hx hb dL_law_947 ?_
  refine z_sld Z Mz9 hX9 hbl hbA (j := i9 + 2) (by omega) hL2 dL_law_948 ?_
  refine lv_aload_n hx hb dL_law_949 rfl (lv_at hl9 2 rfl) ?_
  refine lv_iload hx hb dL_law_950 (lv_at hl9 1 rfl) ?_
  refine lv_iconst (v := 3) hx hb dL_law_952 (by decide) ?_
  refine zn_iadd (a := i9) (b := 3) hx hb dL_law_953 ?_
  refine z_sld Z Mz9 hX9 hbl hbA (j := i9 + 3) (by omega) hL2 dL_law_954 ?_
  obtain ⟨ism, m1, m2, m3⟩ := mid_put3 (mW om am T σ) (ouW out T f' :: Wc' u1)
  refine z_callViP (As := [.int (xs (i9 + 1)), .int (xs (i9 + 2)), .int (xs (i9 + 3))]) (rest := []) (rv := rv) (wc := mW om am T σ) (wG := fun u => mW om am T (σ' u)) zT_k trivial Z Mz9 hm (cwV 3 hts gT_law_X6_shape rfl rfl rfl (by decide +kernel) ⟨Nat.le_trans (Nat.le_of_ble_eq_true rfl) hR.1, Nat.le_trans (Nat.le_of_ble_eq_true rfl) hR.2⟩) ism m1 m2 (fun u j hj => rfl) (fun _ => Nat.le_refl _) (va_recv Z.2.1 Mz9.1 (ci := 7) (q0 := 0) rfl rfl) rfl hl9.1 (Nat.le_of_ble_eq_true rfl) dL_law_955 hroom rfl (fun u2 Hp9 lc9 Mz9 => ?_)
  have Mz9 : zM D A s.heap (mW om am T (σ' u2) ++ (ouW out T f' :: Wc' u1)) _ _ := zM_w (m3 _ rfl) Mz9
  refine lv_istore (lv' := [(6, .int (rv)), (5, .int (k)), (4, .int (nI (i9))), (0, .ref b), (1, .ref o), (2, .ref om), (3, .ref out)]) hx hb dL_law_958 hl9 (by decide) rfl (fun sl9 hl9 => ?_)
  refine lv_aload_n hx hb dL_law_960 rfl (lv_at hl9 5 rfl) ?_
  obtain ⟨ist, t1, t2, t3⟩ := mid_put3 (mW om am T (σ' u2)) (ouW out T f' :: Wc' u1)
  refine z_callVi (As := []) (rest := []) (rv := σ' u2 31 0) (wc := mW om am T (σ' u2)) (wc' := mW om am T (σ' u2)) Z Mz9 (cm_thrown l D T om am (σ' u2)) (cwV 0 hts gT_law_X6_thrown rfl rfl rfl (by decide +kernel) ⟨Nat.le_trans (Nat.le_of_ble_eq_true rfl) hR.1, Nat.le_trans (Nat.le_of_ble_eq_true rfl) hR.2⟩) ist t1 t2 (fun j hj => rfl) (Nat.le_refl _) (va_recv Z.2.1 Mz9.1 (ci := 7) (q0 := 0) rfl rfl) rfl hl9.1 (Nat.le_of_ble_eq_true rfl) dL_law_961 hroom rfl (fun Hp9 lc9 Mz9 => ?_)
  have Mz9 : zM D A s.heap (mW om am T (σ' u2) ++ (ouW out T f' :: Wc' u1)) _ _ := zM_w (t3 _ rfl) Mz9
  refine zn_top (y := k) (h31 u2) ?_
  refine lv_iload hx hb dL_law_964 (lv_at hl9 1 rfl) ?_
  refine lv_icmp_eq (tgt := 971) hx hb dL_law_966 (by decide) (fun _ => ?_) (fun h => absurd h (fun z => z rfl))
  refine lv_iload hx hb dL_law_971 (lv_at hl9 1 rfl) ?_
  refine lv_if_ne (tgt := 988) hx hb dL_law_973 (by decide) (fun c1 => ?_) (fun c1 => ?_)
  ·
    refine lv_goto (tgt := 1784) hx hb dL_law_988 (by decide) ?_
    exact kk u1 u2 _ _ _ Mz9 (lv_sub hl9 [2, 3, 4, 5, 6] rfl)
  ·
    refine lv_aload_n hx hb dL_law_976 rfl (lv_at hl9 6 rfl) ?_
    refine lv_iconst (v := 0) hx hb dL_law_977 (by decide) ?_
    refine va_lald hx hb Z.2.1 Mz9.1 26 2 (cA := T 2) (n := 1) (f := f') rfl rfl (i := 0) (by unfold vp_in; decide) dL_law_978 ?_
    rw [hk c1]
    refine lv_iload hx hb dL_law_979 (lv_at hl9 0 rfl) ?_
    refine lv_i2l (v := rv.toInt64) hx hb dL_law_981 rfl ?_
    refine W.lcmp hx hb dL_law_982 ?_
    rw [lgc]
    refine lv_if_eq (tgt := 988) hx hb dL_law_983 (by decide) (fun _ => ?_) (fun h => absurd h (by decide))
    refine lv_goto (tgt := 1784) hx hb dL_law_988 (by decide) ?_
    exact kk u1 u2 _ _ _ Mz9 (lv_sub hl9 [2, 3, 4, 5, 6] rfl)
set_option maxHeartbeats 4000000 in
set_option maxRecDepth 100000 in
theorem lc_sink (Z : zC p s m args c cL_law 7 RL lw_tbl D T A) (hR : 11 ≤ R.frames ∧ 404 ≤ R.locals) (hXX : zX ea mi sa A s s.heap) (hX9 : va_X b L xs s s.heap) (hbl : b < s.heap.size) (hbA : ¬ A b) (hL2 : L < 2 ^ 31) (hi9 : i9 + 4 < L)
    (hw : ZIH l yL_sink wsL_sink rm (zX ea mi sa) D T (S := S1) (ouW out T f :: Wc) (fun u => ouW out T f' :: Wc' u) [.ref o, .int (xs (i9 + 1)), .ref out] k mc ms) (hrm : rm.cells = mc ∧ rm.slots = ms ∧ rm.frames + 1 ≤ 11 ∧ 8 + (4 + 11) + rm.locals ≤ 404) (hf : ∀ (u : S1) (j : Nat), j < (ouW out T f :: Wc).length → ((ouW out T f' :: Wc' u).map Prod.fst)[j]? = ((ouW out T f :: Wc).map Prod.fst)[j]?) (hlen : ∀ u : S1, (ouW out T f :: Wc).length ≤ (ouW out T f' :: Wc' u).length)
    (hm : ZM l yX6_sink wsX6_sink (zrm 2 43) D T (S := S2) (mW om am T σ) (fun u => mW om am T (σ' u)) [.ref om, .int (xs (i9 + 1))] rv) (h31 : ∀ u2 : S2, σ' u2 31 0 = k) (hk : k = 0 → f' (0 : Int32).toNatClampNeg = rv.toInt64) (hroom : cells + mc ≤ R.cells ∧ slots + ms ≤ R.slots) (Mz9 : zM D A s.heap (mW om am T σ ++ (ouW out T f :: Wc)) Hp9 lc9) (hl9 : lv_has sl9 7 [(4, .int (nI (i9))), (0, .ref b), (1, .ref o), (2, .ref om), (3, .ref out)])
    (kk : ∀ (u1 : S1) (u2 : S2) (Hp9 : Heap) (lc9 : List Loc) (sl9 : Array Slot), zM D A s.heap (mW om am T (σ' u2) ++ (ouW out T f' :: Wc' u1)) Hp9 lc9 → lv_has sl9 7 [(4, .int (nI (i9))), (0, .ref b), (1, .ref o), (2, .ref om), (3, .ref out)] → W p l e R s m args below meth c Hp9 lc9 (cells + mc) (slots + ms) Q (F0 m 1784 sl9 [])) :
    W p l e R s m args below meth c Hp9 lc9 cells slots Q (F0 m 991 sl9 []) := by
  have hx := Z.1.1
  have hb := Z.1.2.1
  have hts := Z.1.2.2.2.2
  refine lv_aload_n hx hb dL_law_991 rfl (lv_at hl9 2 rfl) ?_
  refine lv_aload_n hx hb dL_law_992 rfl (lv_at hl9 1 rfl) ?_
  refine lv_iload hx hb dL_law_993 (lv_at hl9 0 rfl) ?_
  refine lv_iconst (v := 1) hx hb dL_law_995 (by decide) ?_
  refine zn_iadd (a := i9) (b := 1) hx hb dL_law_996 ?_
  refine z_sld Z Mz9 hX9 hbl hbA (j := i9 + 1) (by omega) hL2 dL_law_997 ?_
  refine lv_aload_n hx hb dL_law_998 rfl (lv_at hl9 4 rfl) ?_
  obtain ⟨isw, w1, w2, w3⟩ := mid_put4 (mW om am T σ) (ouW out T f :: Wc)
  refine z_callSWH (As := [.ref o, .int (xs (i9 + 1)), .ref out]) (rest := []) (wc := ouW out T f :: Wc) (zX_k ea mi sa) hXX Z Mz9 hw (vx_cwSW 3 hts gT_law_L_sink rfl hrm.1 hrm.2.1 (by decide +kernel) ⟨Nat.le_trans hrm.2.2.1 hR.1, Nat.le_trans hrm.2.2.2 hR.2⟩) isw w1 w2 hf hlen rfl hl9.1 (Nat.le_of_ble_eq_true rfl) dL_law_999 hroom rfl (fun u1 Hp9 lc9 Mz9 => ?_)
  have Mz9 : zM D A s.heap (mW om am T σ ++ (ouW out T f' :: Wc' u1)) _ _ := zM_w (w3 _ (hlen u1)) Mz9
  refine lv_istore (lv' := [(5, .int (k)), (4, .int (nI (i9))), (0, .ref b), (1, .ref o), (2, .ref om), (3, .ref out)]) hx hb dL_law_1002 hl9 (by decide) rfl (fun sl9 hl9 => ?_)
  refine lv_aload_n hx hb dL_law_1004 rfl (lv_at hl9 4 rfl) ?_
  refine lv_aload_n hx hb dL_law_1005 rfl (lv_at hl9 2 rfl) ?_
  refine lv_iload hx hb dL_law_1006 (lv_at hl9 1 rfl) ?_
  refine lv_iconst (v := 1) hx hb dL_law_1008 (by decide) ?_
  refine zn_iadd (a := i9) (b := 1) hx hb dL_law_1009 ?_
  refine z_sld Z Mz9 hX9 hbl hbA (j := i9 + 1) (by omega) hL2 dL_law_1010 ?_
  obtain ⟨ism, m1, m2, m3⟩ := mid_put3 (mW om am T σ) (ouW out T f' :: Wc' u1)
  refine z_callViP (As := [.int (xs (i9 + 1))]) (rest := []) (rv := rv) (wc := mW om am T σ) (wG := fun u => mW om am T (σ' u)) zT_k trivial Z Mz9 hm (cwV 1 hts gT_law_X6_sink rfl rfl rfl (by decide +kernel) ⟨Nat.le_trans (Nat.le_of_ble_eq_true rfl) hR.1, Nat.le_trans (Nat.le_of_ble_eq_true rfl) hR.2⟩) ism m1 m2 (fun u j hj => rfl) (fun _ => Nat.le_refl _) (va_recv Z.2.1 Mz9.1 (ci := 7) (q0 := 0) rfl rfl) rfl hl9.1 (Nat.le_of_ble_eq_true rfl) dL_law_1011 hroom rfl (fun u2 Hp9 lc9 Mz9 => ?_)
  have Mz9 : zM D A s.heap (mW om am T (σ' u2) ++ (ouW out T f' :: Wc' u1)) _ _ := zM_w (m3 _ rfl) Mz9
  refine lv_istore (lv' := [(6, .int (rv)), (5, .int (k)), (4, .int (nI (i9))), (0, .ref b), (1, .ref o), (2, .ref om), (3, .ref out)]) hx hb dL_law_1014 hl9 (by decide) rfl (fun sl9 hl9 => ?_)
  refine lv_aload_n hx hb dL_law_1016 rfl (lv_at hl9 5 rfl) ?_
  obtain ⟨ist, t1, t2, t3⟩ := mid_put3 (mW om am T (σ' u2)) (ouW out T f' :: Wc' u1)
  refine z_callVi (As := []) (rest := []) (rv := σ' u2 31 0) (wc := mW om am T (σ' u2)) (wc' := mW om am T (σ' u2)) Z Mz9 (cm_thrown l D T om am (σ' u2)) (cwV 0 hts gT_law_X6_thrown rfl rfl rfl (by decide +kernel) ⟨Nat.le_trans (Nat.le_of_ble_eq_true rfl) hR.1, Nat.le_trans (Nat.le_of_ble_eq_true rfl) hR.2⟩) ist t1 t2 (fun j hj => rfl) (Nat.le_refl _) (va_recv Z.2.1 Mz9.1 (ci := 7) (q0 := 0) rfl rfl) rfl hl9.1 (Nat.le_of_ble_eq_true rfl) dL_law_1017 hroom rfl (fun Hp9 lc9 Mz9 => ?_)
  have Mz9 : zM D A s.heap (mW om am T (σ' u2) ++ (ouW out T f' :: Wc' u1)) _ _ := zM_w (t3 _ rfl) Mz9
  refine zn_top (y := k) (h31 u2) ?_
  refine lv_iload hx hb dL_law_1020 (lv_at hl9 1 rfl) ?_
  refine lv_icmp_eq (tgt := 1027) hx hb dL_law_1022 (by decide) (fun _ => ?_) (fun h => absurd h (fun z => z rfl))
  refine lv_iload hx hb dL_law_1027 (lv_at hl9 1 rfl) ?_
  refine lv_if_ne (tgt := 1044) hx hb dL_law_1029 (by decide) (fun c1 => ?_) (fun c1 => ?_)
  ·
    refine lv_goto (tgt := 1784) hx hb dL_law_1044 (by decide) ?_
    exact kk u1 u2 _ _ _ Mz9 (lv_sub hl9 [2, 3, 4, 5, 6] rfl)
  ·
    refine lv_aload_n hx hb dL_law_1032 rfl (lv_at hl9 6 rfl) ?_
    refine lv_iconst (v := 0) hx hb dL_law_1033 (by decide) ?_
    refine va_lald hx hb Z.2.1 Mz9.1 26 2 (cA := T 2) (n := 1) (f := f') rfl rfl (i := 0) (by unfold vp_in; decide) dL_law_1034 ?_
    rw [hk c1]
    refine lv_iload hx hb dL_law_1035 (lv_at hl9 0 rfl) ?_
    refine lv_i2l (v := rv.toInt64) hx hb dL_law_1037 rfl ?_
    refine W.lcmp hx hb dL_law_1038 ?_
    rw [lgc]
    refine lv_if_eq (tgt := 1044) hx hb dL_law_1039 (by decide) (fun _ => ?_) (fun h => absurd h (by decide))
    refine lv_goto (tgt := 1784) hx hb dL_law_1044 (by decide) ?_
    exact kk u1 u2 _ _ _ Mz9 (lv_sub hl9 [2, 3, 4, 5, 6] rfl)
end LAWC
