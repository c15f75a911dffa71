/-! ===== the law's helpers ===== -/
set_option maxHeartbeats 4000000 in
set_option maxRecDepth 100000 in
theorem lk_steel (l : Launch) (D : va_G) (T : Nat → ClassId) (ea mi : Nat) (sa : Nat → Nat) (o : Nat) (x0 x1 x2 x3 : Int32) {vs : List Value} {wt : va_W} {rm : Room} {S : Type} {w' : S → va_W} {mc ms : Nat} (hM : ZGH l yX5_steel wsX5_steel rm (zW ea mi sa) D T (S := S) ((o, .inr (6, vs)) :: wt) w' [.ref o, .int x0, .int x1, .int x2, .int x3] mc ms) (hrm : rm.cells = mc ∧ rm.slots = ms) (hf : ∀ (u : S) (j : Nat), j < ((o, .inr (6, vs)) :: wt).length → ((w' u).map Prod.fst)[j]? = (((o, .inr (6, vs)) :: wt).map Prod.fst)[j]?) (hlen : ∀ u : S, ((o, .inr (6, vs)) :: wt).length ≤ (w' u).length) : ZIH l yL_steel wsL_steel (lkR rm 6 mc ms) (zX ea mi sa) D T (S := S) ((o, .inr (6, vs)) :: wt) w' [.ref o, .int x0, .int x1, .int x2, .int x3] 0 mc ms := by
  refine z_inIHW (cc := cL_steel) (maxL := 6) (hh := [(0, 10, 11, 16), (0, 10, 16, 19)]) (rt := .int) (by decide +kernel) rfl (Nat.le_of_ble_eq_true rfl) ?_
  intro p e s m args below meth c sl9 A Q Z hX htb hnm Mz9 hl9 hret
  have Z : zC p s m args c cL_steel 6 RL wsL_steel D T A := Z
  have hx := Z.1.1
  have hb := Z.1.2.1
  have hts := Z.1.2.2.2.2
  have hl9 : lv_has sl9 6 [(0, .ref o), (1, .int (x0)), (2, .int (x1)), (3, .int (x2)), (4, .int (x3))] := hl9
  obtain ⟨is9, hp1, hp2, hp3⟩ := mid_put4 [] ((o, .inr (6, vs)) :: wt)
  refine lv_aload_n hx hb dL_steel_0 rfl (lv_at hl9 0 rfl) ?_
  refine lv_iload_n hx hb dL_steel_1 rfl (lv_at hl9 1 rfl) ?_
  refine lv_iload_n hx hb dL_steel_2 rfl (lv_at hl9 2 rfl) ?_
  refine lv_iload_n hx hb dL_steel_3 rfl (lv_at hl9 3 rfl) ?_
  refine lv_iload hx hb dL_steel_4 (lv_at hl9 4 rfl) ?_
  refine z_callVvH (As := [.int (x0), .int (x1), .int (x2), .int (x3)]) (rest := []) (wc := ((o, .inr (6, vs)) :: wt)) (zW_k ea mi sa) hX.1 Z Mz9 hM (cwV 4 hts gL_steel_X5_steel rfl hrm.1 hrm.2 (by decide +kernel) ⟨Nat.le_refl _, Nat.le_refl _⟩) is9 hp1 hp2 hf hlen (va_recv Z.2.1 Mz9.1 (ci := 6) (q0 := 0) rfl rfl) rfl hl9.1 (Nat.le_of_ble_eq_true rfl) dL_steel_6 ⟨Nat.le_of_eq (Nat.zero_add _), Nat.le_of_eq (Nat.zero_add _)⟩ rfl (fun u Hp9 lc9 Mz9 => ?_)
  have Mz9 : zM D A s.heap (w' u) _ _ := zM_w (hp3 _ (hlen u)) Mz9
  refine lv_iconst (v := 0) hx hb dL_steel_9 (by decide) ?_
  exact hret _ _ _ _ _ sl9 _ _ u Mz9 rfl (rfl) rfl (Nat.le_of_eq (Nat.zero_add _)) (Nat.le_of_eq (Nat.zero_add _)) dL_steel_10
set_option maxHeartbeats 4000000 in
set_option maxRecDepth 100000 in
theorem lk_steel_1 (l : Launch) (D : va_G) (T : Nat → ClassId) (ea mi : Nat) (sa : Nat → Nat) (o : Nat) (x0 x1 x2 x3 : Int32) {vs : List Value} {wt : va_W} {rm : Room} (hM : ZB l yX5_steel wsX5_steel rm (zW ea mi sa) D T ((o, .inr (6, vs)) :: wt) [.ref o, .int x0, .int x1, .int x2, .int x3] "java/lang/IndexOutOfBoundsException") (hrm : rm.cells = 1 ∧ rm.slots = 6) : ZIH l yL_steel wsL_steel (lkR rm 6 1 6) (zX ea mi sa) D T (S := Unit) ((o, .inr (6, vs)) :: wt) (fun _ => ((o, .inr (6, vs)) :: wt)) [.ref o, .int x0, .int x1, .int x2, .int x3] (-1000001) 1 6 := by
  refine z_inIHW (cc := cL_steel) (maxL := 6) (hh := [(0, 10, 11, 16), (0, 10, 16, 19)]) (rt := .int) (by decide +kernel) rfl (Nat.le_of_ble_eq_true rfl) ?_
  intro p e s m args below meth c sl9 A Q Z hX htb hnm Mz9 hl9 hret
  have Z : zC p s m args c cL_steel 6 RL wsL_steel D T A := Z
  have hx := Z.1.1
  have hb := Z.1.2.1
  have hts := Z.1.2.2.2.2
  have hl9 : lv_has sl9 6 [(0, .ref o), (1, .int (x0)), (2, .int (x1)), (3, .int (x2)), (4, .int (x3))] := hl9
  obtain ⟨is9, hp1, hp2, hp3⟩ := mid_put4 [] ((o, .inr (6, vs)) :: wt)
  refine lv_aload_n hx hb dL_steel_0 rfl (lv_at hl9 0 rfl) ?_
  refine lv_iload_n hx hb dL_steel_1 rfl (lv_at hl9 1 rfl) ?_
  refine lv_iload_n hx hb dL_steel_2 rfl (lv_at hl9 2 rfl) ?_
  refine lv_iload_n hx hb dL_steel_3 rfl (lv_at hl9 3 rfl) ?_
  refine lv_iload hx hb dL_steel_4 (lv_at hl9 4 rfl) ?_
  refine z_callVx (As := [.int (x0), .int (x1), .int (x2), .int (x3)]) (rest := []) (wc := ((o, .inr (6, vs)) :: wt)) (zW_k ea mi sa) hX.1 Z Mz9 hM (cwV 4 hts gL_steel_X5_steel rfl hrm.1 hrm.2 (by decide +kernel) ⟨Nat.le_refl _, Nat.le_refl _⟩) is9 hp1 hp2 (va_recv Z.2.1 Mz9.1 (ci := 6) (q0 := 0) rfl rfl) rfl hl9.1 (Nat.le_of_ble_eq_true rfl) dL_steel_6 ⟨Nat.le_of_ble_eq_true rfl, Nat.le_of_ble_eq_true rfl⟩ rfl (fun Hp9 lc9 q9 ce Mz9 hcell hv hcl => ?_)
  refine vx_catch (name := "java/lang/IndexOutOfBoundsException") Z.1.2.2.2.1 [] (⟨0, 10, 11, 16⟩ : ExceptionTableEntry) [(⟨0, 10, 16, 19⟩ : ExceptionTableEntry)] htb (fun z hz => absurd hz List.not_mem_nil) (by decide) (by decide) (hts (.classLink RL 16 "java/lang/IndexOutOfBoundsException") (by decide +kernel)) ((zWw hX.1 (w := .castable "java/lang/IndexOutOfBoundsException" "java/lang/IndexOutOfBoundsException") (by decide +kernel)).use rfl) hcell hv hcl ?_
  refine lv_astore (lv' := [(5, .ref q9), (0, .ref o), (1, .int (x0)), (2, .int (x1)), (3, .int (x2)), (4, .int (x3))]) hx hb dL_steel_11 hl9 (by decide) rfl (fun sl9 hl9 => ?_)
  refine lv_ldc (v := (-1000001)) hx hb Z.1.2.2.2.1 (hts (.constant RL 18 (-1000001)) (by decide +kernel)) dL_steel_13 ?_
  exact hret _ _ _ _ _ sl9 _ _ () Mz9 rfl rfl rfl (Nat.le_of_ble_eq_true rfl) (Nat.le_of_ble_eq_true rfl) dL_steel_15
set_option maxHeartbeats 4000000 in
set_option maxRecDepth 100000 in
theorem lk_steel_2 (l : Launch) (D : va_G) (T : Nat → ClassId) (ea mi : Nat) (sa : Nat → Nat) (o : Nat) (x0 x1 x2 x3 : Int32) {vs : List Value} {wt : va_W} {rm : Room} (hM : ZB l yX5_steel wsX5_steel rm (zW ea mi sa) D T ((o, .inr (6, vs)) :: wt) [.ref o, .int x0, .int x1, .int x2, .int x3] "java/lang/IllegalArgumentException") (hrm : rm.cells = 1 ∧ rm.slots = 6) : ZIH l yL_steel wsL_steel (lkR rm 6 1 6) (zX ea mi sa) D T (S := Unit) ((o, .inr (6, vs)) :: wt) (fun _ => ((o, .inr (6, vs)) :: wt)) [.ref o, .int x0, .int x1, .int x2, .int x3] (-1000002) 1 6 := by
  refine z_inIHW (cc := cL_steel) (maxL := 6) (hh := [(0, 10, 11, 16), (0, 10, 16, 19)]) (rt := .int) (by decide +kernel) rfl (Nat.le_of_ble_eq_true rfl) ?_
  intro p e s m args below meth c sl9 A Q Z hX htb hnm Mz9 hl9 hret
  have Z : zC p s m args c cL_steel 6 RL wsL_steel D T A := Z
  have hx := Z.1.1
  have hb := Z.1.2.1
  have hts := Z.1.2.2.2.2
  have hl9 : lv_has sl9 6 [(0, .ref o), (1, .int (x0)), (2, .int (x1)), (3, .int (x2)), (4, .int (x3))] := hl9
  obtain ⟨is9, hp1, hp2, hp3⟩ := mid_put4 [] ((o, .inr (6, vs)) :: wt)
  refine lv_aload_n hx hb dL_steel_0 rfl (lv_at hl9 0 rfl) ?_
  refine lv_iload_n hx hb dL_steel_1 rfl (lv_at hl9 1 rfl) ?_
  refine lv_iload_n hx hb dL_steel_2 rfl (lv_at hl9 2 rfl) ?_
  refine lv_iload_n hx hb dL_steel_3 rfl (lv_at hl9 3 rfl) ?_
  refine lv_iload hx hb dL_steel_4 (lv_at hl9 4 rfl) ?_
  refine z_callVx (As := [.int (x0), .int (x1), .int (x2), .int (x3)]) (rest := []) (wc := ((o, .inr (6, vs)) :: wt)) (zW_k ea mi sa) hX.1 Z Mz9 hM (cwV 4 hts gL_steel_X5_steel rfl hrm.1 hrm.2 (by decide +kernel) ⟨Nat.le_refl _, Nat.le_refl _⟩) is9 hp1 hp2 (va_recv Z.2.1 Mz9.1 (ci := 6) (q0 := 0) rfl rfl) rfl hl9.1 (Nat.le_of_ble_eq_true rfl) dL_steel_6 ⟨Nat.le_of_ble_eq_true rfl, Nat.le_of_ble_eq_true rfl⟩ rfl (fun Hp9 lc9 q9 ce Mz9 hcell hv hcl => ?_)
  refine vx_catch (name := "java/lang/IllegalArgumentException") Z.1.2.2.2.1 [(⟨0, 10, 11, 16⟩ : ExceptionTableEntry)] (⟨0, 10, 16, 19⟩ : ExceptionTableEntry) [] htb (List.forall_mem_cons.mpr ⟨Or.inr ⟨by decide, "java/lang/IndexOutOfBoundsException", hts (.classLink RL 16 "java/lang/IndexOutOfBoundsException") (by decide +kernel), hX.2.1⟩, fun _ hz => absurd hz List.not_mem_nil⟩) (by decide) (by decide) (hts (.classLink RL 19 "java/lang/IllegalArgumentException") (by decide +kernel)) ((zWw hX.1 (w := .castable "java/lang/IllegalArgumentException" "java/lang/IllegalArgumentException") (by decide +kernel)).use rfl) hcell hv hcl ?_
  refine lv_astore (lv' := [(5, .ref q9), (0, .ref o), (1, .int (x0)), (2, .int (x1)), (3, .int (x2)), (4, .int (x3))]) hx hb dL_steel_16 hl9 (by decide) rfl (fun sl9 hl9 => ?_)
  refine lv_ldc (v := (-1000002)) hx hb Z.1.2.2.2.1 (hts (.constant RL 21 (-1000002)) (by decide +kernel)) dL_steel_18 ?_
  exact hret _ _ _ _ _ sl9 _ _ () Mz9 rfl rfl rfl (Nat.le_of_ble_eq_true rfl) (Nat.le_of_ble_eq_true rfl) dL_steel_20
set_option maxHeartbeats 4000000 in
set_option maxRecDepth 100000 in
theorem lk_melt (l : Launch) (D : va_G) (T : Nat → ClassId) (ea mi : Nat) (sa : Nat → Nat) (o : Nat) (x0 : Int32) {vs : List Value} {wt : va_W} {rm : Room} {S : Type} {w' : S → va_W} {mc ms : Nat} {rv : Int32} (hM : ZIH l yX5_melt wsX5_melt rm (zW ea mi sa) D T (S := S) ((o, .inr (6, vs)) :: wt) w' [.ref o, .int x0] rv mc ms) (hrm : rm.cells = mc ∧ rm.slots = ms) (hf : ∀ (u : S) (j : Nat), j < ((o, .inr (6, vs)) :: wt).length → ((w' u).map Prod.fst)[j]? = (((o, .inr (6, vs)) :: wt).map Prod.fst)[j]?) (hlen : ∀ u : S, ((o, .inr (6, vs)) :: wt).length ≤ (w' u).length) : ZIH l yL_melt wsL_melt (lkR rm 4 mc ms) (zX ea mi sa) D T (S := S) ((o, .inr (6, vs)) :: wt) w' [.ref o, .int x0] rv mc ms := by
  refine z_inIHW (cc := cL_melt) (maxL := 3) (hh := [(0, 5, 6, 16), (0, 5, 10, 26)]) (rt := .int) (by decide +kernel) rfl (Nat.le_of_ble_eq_true rfl) ?_
  intro p e s m args below meth c sl9 A Q Z hX htb hnm Mz9 hl9 hret
  have Z : zC p s m args c cL_melt 3 RL wsL_melt D T A := Z
  have hx := Z.1.1
  have hb := Z.1.2.1
  have hts := Z.1.2.2.2.2
  have hl9 : lv_has sl9 3 [(0, .ref o), (1, .int (x0))] := hl9
  obtain ⟨is9, hp1, hp2, hp3⟩ := mid_put4 [] ((o, .inr (6, vs)) :: wt)
  refine lv_aload_n hx hb dL_melt_0 rfl (lv_at hl9 0 rfl) ?_
  refine lv_iload_n hx hb dL_melt_1 rfl (lv_at hl9 1 rfl) ?_
  refine z_callViH (As := [.int (x0)]) (rest := []) (wc := ((o, .inr (6, vs)) :: wt)) (zW_k ea mi sa) hX.1 Z Mz9 hM (cwV 1 hts gL_melt_X5_melt rfl hrm.1 hrm.2 (by decide +kernel) ⟨Nat.le_refl _, Nat.le_refl _⟩) is9 hp1 hp2 hf hlen (va_recv Z.2.1 Mz9.1 (ci := 6) (q0 := 0) rfl rfl) rfl hl9.1 (Nat.le_of_ble_eq_true rfl) dL_melt_2 ⟨Nat.le_of_eq (Nat.zero_add _), Nat.le_of_eq (Nat.zero_add _)⟩ rfl (fun u Hp9 lc9 Mz9 => ?_)
  have Mz9 : zM D A s.heap (w' u) _ _ := zM_w (hp3 _ (hlen u)) Mz9
  exact hret _ _ _ _ _ sl9 _ _ u Mz9 rfl (rfl) rfl (Nat.le_of_eq (Nat.zero_add _)) (Nat.le_of_eq (Nat.zero_add _)) dL_melt_5
set_option maxHeartbeats 4000000 in
set_option maxRecDepth 100000 in
theorem lk_melt_1 (l : Launch) (D : va_G) (T : Nat → ClassId) (ea mi : Nat) (sa : Nat → Nat) (o : Nat) (x0 : Int32) {vs : List Value} {wt : va_W} {rm : Room} (hM : ZB l yX5_melt wsX5_melt rm (zW ea mi sa) D T ((o, .inr (6, vs)) :: wt) [.ref o, .int x0] "java/lang/IndexOutOfBoundsException") (hrm : rm.cells = 1 ∧ rm.slots = 6) : ZIH l yL_melt wsL_melt (lkR rm 4 1 6) (zX ea mi sa) D T (S := Unit) ((o, .inr (6, vs)) :: wt) (fun _ => ((o, .inr (6, vs)) :: wt)) [.ref o, .int x0] (-1000001) 1 6 := by
  refine z_inIHW (cc := cL_melt) (maxL := 3) (hh := [(0, 5, 6, 16), (0, 5, 10, 26)]) (rt := .int) (by decide +kernel) rfl (Nat.le_of_ble_eq_true rfl) ?_
  intro p e s m args below meth c sl9 A Q Z hX htb hnm Mz9 hl9 hret
  have Z : zC p s m args c cL_melt 3 RL wsL_melt D T A := Z
  have hx := Z.1.1
  have hb := Z.1.2.1
  have hts := Z.1.2.2.2.2
  have hl9 : lv_has sl9 3 [(0, .ref o), (1, .int (x0))] := hl9
  obtain ⟨is9, hp1, hp2, hp3⟩ := mid_put4 [] ((o, .inr (6, vs)) :: wt)
  refine lv_aload_n hx hb dL_melt_0 rfl (lv_at hl9 0 rfl) ?_
  refine lv_iload_n hx hb dL_melt_1 rfl (lv_at hl9 1 rfl) ?_
  refine z_callVx (As := [.int (x0)]) (rest := []) (wc := ((o, .inr (6, vs)) :: wt)) (zW_k ea mi sa) hX.1 Z Mz9 hM (cwV 1 hts gL_melt_X5_melt rfl hrm.1 hrm.2 (by decide +kernel) ⟨Nat.le_refl _, Nat.le_refl _⟩) is9 hp1 hp2 (va_recv Z.2.1 Mz9.1 (ci := 6) (q0 := 0) rfl rfl) rfl hl9.1 (Nat.le_of_ble_eq_true rfl) dL_melt_2 ⟨Nat.le_of_ble_eq_true rfl, Nat.le_of_ble_eq_true rfl⟩ rfl (fun Hp9 lc9 q9 ce Mz9 hcell hv hcl => ?_)
  refine vx_catch (name := "java/lang/IndexOutOfBoundsException") Z.1.2.2.2.1 [] (⟨0, 5, 6, 16⟩ : ExceptionTableEntry) [(⟨0, 5, 10, 26⟩ : ExceptionTableEntry)] htb (fun z hz => absurd hz List.not_mem_nil) (by decide) (by decide) (hts (.classLink RL 16 "java/lang/IndexOutOfBoundsException") (by decide +kernel)) ((zWw hX.1 (w := .castable "java/lang/IndexOutOfBoundsException" "java/lang/IndexOutOfBoundsException") (by decide +kernel)).use rfl) hcell hv hcl ?_
  refine lv_astore_n (lv' := [(2, .ref q9), (0, .ref o), (1, .int (x0))]) hx hb dL_melt_6 rfl hl9 (by decide) rfl (fun sl9 hl9 => ?_)
  refine lv_ldc (v := (-1000001)) hx hb Z.1.2.2.2.1 (hts (.constant RL 18 (-1000001)) (by decide +kernel)) dL_melt_7 ?_
  exact hret _ _ _ _ _ sl9 _ _ () Mz9 rfl rfl rfl (Nat.le_of_ble_eq_true rfl) (Nat.le_of_ble_eq_true rfl) dL_melt_9
set_option maxHeartbeats 4000000 in
set_option maxRecDepth 100000 in
theorem lk_melt_2 (l : Launch) (D : va_G) (T : Nat → ClassId) (ea mi : Nat) (sa : Nat → Nat) (o : Nat) (x0 : Int32) {vs : List Value} {wt : va_W} {rm : Room} (hM : ZB l yX5_melt wsX5_melt rm (zW ea mi sa) D T ((o, .inr (6, vs)) :: wt) [.ref o, .int x0] "java/lang/IllegalStateException") (hrm : rm.cells = 1 ∧ rm.slots = 6) : ZIH l yL_melt wsL_melt (lkR rm 4 1 6) (zX ea mi sa) D T (S := Unit) ((o, .inr (6, vs)) :: wt) (fun _ => ((o, .inr (6, vs)) :: wt)) [.ref o, .int x0] (-1000003) 1 6 := by
  refine z_inIHW (cc := cL_melt) (maxL := 3) (hh := [(0, 5, 6, 16), (0, 5, 10, 26)]) (rt := .int) (by decide +kernel) rfl (Nat.le_of_ble_eq_true rfl) ?_
  intro p e s m args below meth c sl9 A Q Z hX htb hnm Mz9 hl9 hret
  have Z : zC p s m args c cL_melt 3 RL wsL_melt D T A := Z
  have hx := Z.1.1
  have hb := Z.1.2.1
  have hts := Z.1.2.2.2.2
  have hl9 : lv_has sl9 3 [(0, .ref o), (1, .int (x0))] := hl9
  obtain ⟨is9, hp1, hp2, hp3⟩ := mid_put4 [] ((o, .inr (6, vs)) :: wt)
  refine lv_aload_n hx hb dL_melt_0 rfl (lv_at hl9 0 rfl) ?_
  refine lv_iload_n hx hb dL_melt_1 rfl (lv_at hl9 1 rfl) ?_
  refine z_callVx (As := [.int (x0)]) (rest := []) (wc := ((o, .inr (6, vs)) :: wt)) (zW_k ea mi sa) hX.1 Z Mz9 hM (cwV 1 hts gL_melt_X5_melt rfl hrm.1 hrm.2 (by decide +kernel) ⟨Nat.le_refl _, Nat.le_refl _⟩) is9 hp1 hp2 (va_recv Z.2.1 Mz9.1 (ci := 6) (q0 := 0) rfl rfl) rfl hl9.1 (Nat.le_of_ble_eq_true rfl) dL_melt_2 ⟨Nat.le_of_ble_eq_true rfl, Nat.le_of_ble_eq_true rfl⟩ rfl (fun Hp9 lc9 q9 ce Mz9 hcell hv hcl => ?_)
  refine vx_catch (name := "java/lang/IllegalStateException") Z.1.2.2.2.1 [(⟨0, 5, 6, 16⟩ : ExceptionTableEntry)] (⟨0, 5, 10, 26⟩ : ExceptionTableEntry) [] htb (List.forall_mem_cons.mpr ⟨Or.inr ⟨by decide, "java/lang/IndexOutOfBoundsException", hts (.classLink RL 16 "java/lang/IndexOutOfBoundsException") (by decide +kernel), hX.2.2.1⟩, fun _ hz => absurd hz List.not_mem_nil⟩) (by decide) (by decide) (hts (.classLink RL 26 "java/lang/IllegalStateException") (by decide +kernel)) ((zWw hX.1 (w := .castable "java/lang/IllegalStateException" "java/lang/IllegalStateException") (by decide +kernel)).use rfl) hcell hv hcl ?_
  refine lv_astore_n (lv' := [(2, .ref q9), (0, .ref o), (1, .int (x0))]) hx hb dL_melt_10 rfl hl9 (by decide) rfl (fun sl9 hl9 => ?_)
  refine lv_ldc (v := (-1000003)) hx hb Z.1.2.2.2.1 (hts (.constant RL 28 (-1000003)) (by decide +kernel)) dL_melt_11 ?_
  exact hret _ _ _ _ _ sl9 _ _ () Mz9 rfl rfl rfl (Nat.le_of_ble_eq_true rfl) (Nat.le_of_ble_eq_true rfl) dL_melt_13
set_option maxHeartbeats 4000000 in
set_option maxRecDepth 100000 in
theorem lk_billet (l : Launch) (D : va_G) (T : Nat → ClassId) (ea mi : Nat) (sa : Nat → Nat) (o : Nat) (x0 x1 : Int32) {vs : List Value} {wt : va_W} {rm : Room} {S : Type} {w' : S → va_W} {mc ms : Nat} {rv : Int32} (hM : ZIH l yX5_billet wsX5_billet rm (zW ea mi sa) D T (S := S) ((o, .inr (6, vs)) :: wt) w' [.ref o, .int x0, .int x1] rv mc ms) (hrm : rm.cells = mc ∧ rm.slots = ms) (hf : ∀ (u : S) (j : Nat), j < ((o, .inr (6, vs)) :: wt).length → ((w' u).map Prod.fst)[j]? = (((o, .inr (6, vs)) :: wt).map Prod.fst)[j]?) (hlen : ∀ u : S, ((o, .inr (6, vs)) :: wt).length ≤ (w' u).length) : ZIH l yL_billet wsL_billet (lkR rm 4 mc ms) (zX ea mi sa) D T (S := S) ((o, .inr (6, vs)) :: wt) w' [.ref o, .int x0, .int x1] rv mc ms := by
  refine z_inIHW (cc := cL_billet) (maxL := 4) (hh := [(0, 6, 7, 16), (0, 6, 11, 19), (0, 6, 15, 26)]) (rt := .int) (by decide +kernel) rfl (Nat.le_of_ble_eq_true rfl) ?_
  intro p e s m args below meth c sl9 A Q Z hX htb hnm Mz9 hl9 hret
  have Z : zC p s m args c cL_billet 4 RL wsL_billet D T A := Z
  have hx := Z.1.1
  have hb := Z.1.2.1
  have hts := Z.1.2.2.2.2
  have hl9 : lv_has sl9 4 [(0, .ref o), (1, .int (x0)), (2, .int (x1))] := hl9
  obtain ⟨is9, hp1, hp2, hp3⟩ := mid_put4 [] ((o, .inr (6, vs)) :: wt)
  refine lv_aload_n hx hb dL_billet_0 rfl (lv_at hl9 0 rfl) ?_
  refine lv_iload_n hx hb dL_billet_1 rfl (lv_at hl9 1 rfl) ?_
  refine lv_iload_n hx hb dL_billet_2 rfl (lv_at hl9 2 rfl) ?_
  refine z_callViH (As := [.int (x0), .int (x1)]) (rest := []) (wc := ((o, .inr (6, vs)) :: wt)) (zW_k ea mi sa) hX.1 Z Mz9 hM (cwV 2 hts gL_billet_X5_billet rfl hrm.1 hrm.2 (by decide +kernel) ⟨Nat.le_refl _, Nat.le_refl _⟩) is9 hp1 hp2 hf hlen (va_recv Z.2.1 Mz9.1 (ci := 6) (q0 := 0) rfl rfl) rfl hl9.1 (Nat.le_of_ble_eq_true rfl) dL_billet_3 ⟨Nat.le_of_eq (Nat.zero_add _), Nat.le_of_eq (Nat.zero_add _)⟩ rfl (fun u Hp9 lc9 Mz9 => ?_)
  have Mz9 : zM D A s.heap (w' u) _ _ := zM_w (hp3 _ (hlen u)) Mz9
  exact hret _ _ _ _ _ sl9 _ _ u Mz9 rfl (rfl) rfl (Nat.le_of_eq (Nat.zero_add _)) (Nat.le_of_eq (Nat.zero_add _)) dL_billet_6
set_option maxHeartbeats 4000000 in
set_option maxRecDepth 100000 in
theorem lk_billet_1 (l : Launch) (D : va_G) (T : Nat → ClassId) (ea mi : Nat) (sa : Nat → Nat) (o : Nat) (x0 x1 : Int32) {vs : List Value} {wt : va_W} {rm : Room} (hM : ZB l yX5_billet wsX5_billet rm (zW ea mi sa) D T ((o, .inr (6, vs)) :: wt) [.ref o, .int x0, .int x1] "java/lang/IndexOutOfBoundsException") (hrm : rm.cells = 1 ∧ rm.slots = 6) : ZIH l yL_billet wsL_billet (lkR rm 4 1 6) (zX ea mi sa) D T (S := Unit) ((o, .inr (6, vs)) :: wt) (fun _ => ((o, .inr (6, vs)) :: wt)) [.ref o, .int x0, .int x1] (-1000001) 1 6 := by
  refine z_inIHW (cc := cL_billet) (maxL := 4) (hh := [(0, 6, 7, 16), (0, 6, 11, 19), (0, 6, 15, 26)]) (rt := .int) (by decide +kernel) rfl (Nat.le_of_ble_eq_true rfl) ?_
  intro p e s m args below meth c sl9 A Q Z hX htb hnm Mz9 hl9 hret
  have Z : zC p s m args c cL_billet 4 RL wsL_billet D T A := Z
  have hx := Z.1.1
  have hb := Z.1.2.1
  have hts := Z.1.2.2.2.2
  have hl9 : lv_has sl9 4 [(0, .ref o), (1, .int (x0)), (2, .int (x1))] := hl9
  obtain ⟨is9, hp1, hp2, hp3⟩ := mid_put4 [] ((o, .inr (6, vs)) :: wt)
  refine lv_aload_n hx hb dL_billet_0 rfl (lv_at hl9 0 rfl) ?_
  refine lv_iload_n hx hb dL_billet_1 rfl (lv_at hl9 1 rfl) ?_
  refine lv_iload_n hx hb dL_billet_2 rfl (lv_at hl9 2 rfl) ?_
  refine z_callVx (As := [.int (x0), .int (x1)]) (rest := []) (wc := ((o, .inr (6, vs)) :: wt)) (zW_k ea mi sa) hX.1 Z Mz9 hM (cwV 2 hts gL_billet_X5_billet rfl hrm.1 hrm.2 (by decide +kernel) ⟨Nat.le_refl _, Nat.le_refl _⟩) is9 hp1 hp2 (va_recv Z.2.1 Mz9.1 (ci := 6) (q0 := 0) rfl rfl) rfl hl9.1 (Nat.le_of_ble_eq_true rfl) dL_billet_3 ⟨Nat.le_of_ble_eq_true rfl, Nat.le_of_ble_eq_true rfl⟩ rfl (fun Hp9 lc9 q9 ce Mz9 hcell hv hcl => ?_)
  refine vx_catch (name := "java/lang/IndexOutOfBoundsException") Z.1.2.2.2.1 [] (⟨0, 6, 7, 16⟩ : ExceptionTableEntry) [(⟨0, 6, 11, 19⟩ : ExceptionTableEntry), (⟨0, 6, 15, 26⟩ : ExceptionTableEntry)] htb (fun z hz => absurd hz List.not_mem_nil) (by decide) (by decide) (hts (.classLink RL 16 "java/lang/IndexOutOfBoundsException") (by decide +kernel)) ((zWw hX.1 (w := .castable "java/lang/IndexOutOfBoundsException" "java/lang/IndexOutOfBoundsException") (by decide +kernel)).use rfl) hcell hv hcl ?_
  refine lv_astore_n (lv' := [(3, .ref q9), (0, .ref o), (1, .int (x0)), (2, .int (x1))]) hx hb dL_billet_7 rfl hl9 (by decide) rfl (fun sl9 hl9 => ?_)
  refine lv_ldc (v := (-1000001)) hx hb Z.1.2.2.2.1 (hts (.constant RL 18 (-1000001)) (by decide +kernel)) dL_billet_8 ?_
  exact hret _ _ _ _ _ sl9 _ _ () Mz9 rfl rfl rfl (Nat.le_of_ble_eq_true rfl) (Nat.le_of_ble_eq_true rfl) dL_billet_10
set_option maxHeartbeats 4000000 in
set_option maxRecDepth 100000 in
theorem lk_billet_2 (l : Launch) (D : va_G) (T : Nat → ClassId) (ea mi : Nat) (sa : Nat → Nat) (o : Nat) (x0 x1 : Int32) {vs : List Value} {wt : va_W} {rm : Room} (hM : ZB l yX5_billet wsX5_billet rm (zW ea mi sa) D T ((o, .inr (6, vs)) :: wt) [.ref o, .int x0, .int x1] "java/lang/IllegalArgumentException") (hrm : rm.cells = 1 ∧ rm.slots = 6) : ZIH l yL_billet wsL_billet (lkR rm 4 1 6) (zX ea mi sa) D T (S := Unit) ((o, .inr (6, vs)) :: wt) (fun _ => ((o, .inr (6, vs)) :: wt)) [.ref o, .int x0, .int x1] (-1000002) 1 6 := by
  refine z_inIHW (cc := cL_billet) (maxL := 4) (hh := [(0, 6, 7, 16), (0, 6, 11, 19), (0, 6, 15, 26)]) (rt := .int) (by decide +kernel) rfl (Nat.le_of_ble_eq_true rfl) ?_
  intro p e s m args below meth c sl9 A Q Z hX htb hnm Mz9 hl9 hret
  have Z : zC p s m args c cL_billet 4 RL wsL_billet D T A := Z
  have hx := Z.1.1
  have hb := Z.1.2.1
  have hts := Z.1.2.2.2.2
  have hl9 : lv_has sl9 4 [(0, .ref o), (1, .int (x0)), (2, .int (x1))] := hl9
  obtain ⟨is9, hp1, hp2, hp3⟩ := mid_put4 [] ((o, .inr (6, vs)) :: wt)
  refine lv_aload_n hx hb dL_billet_0 rfl (lv_at hl9 0 rfl) ?_
  refine lv_iload_n hx hb dL_billet_1 rfl (lv_at hl9 1 rfl) ?_
  refine lv_iload_n hx hb dL_billet_2 rfl (lv_at hl9 2 rfl) ?_
  refine z_callVx (As := [.int (x0), .int (x1)]) (rest := []) (wc := ((o, .inr (6, vs)) :: wt)) (zW_k ea mi sa) hX.1 Z Mz9 hM (cwV 2 hts gL_billet_X5_billet rfl hrm.1 hrm.2 (by decide +kernel) ⟨Nat.le_refl _, Nat.le_refl _⟩) is9 hp1 hp2 (va_recv Z.2.1 Mz9.1 (ci := 6) (q0 := 0) rfl rfl) rfl hl9.1 (Nat.le_of_ble_eq_true rfl) dL_billet_3 ⟨Nat.le_of_ble_eq_true rfl, Nat.le_of_ble_eq_true rfl⟩ rfl (fun Hp9 lc9 q9 ce Mz9 hcell hv hcl => ?_)
  refine vx_catch (name := "java/lang/IllegalArgumentException") Z.1.2.2.2.1 [(⟨0, 6, 7, 16⟩ : ExceptionTableEntry)] (⟨0, 6, 11, 19⟩ : ExceptionTableEntry) [(⟨0, 6, 15, 26⟩ : ExceptionTableEntry)] htb (List.forall_mem_cons.mpr ⟨Or.inr ⟨by decide, "java/lang/IndexOutOfBoundsException", hts (.classLink RL 16 "java/lang/IndexOutOfBoundsException") (by decide +kernel), hX.2.1⟩, fun _ hz => absurd hz List.not_mem_nil⟩) (by decide) (by decide) (hts (.classLink RL 19 "java/lang/IllegalArgumentException") (by decide +kernel)) ((zWw hX.1 (w := .castable "java/lang/IllegalArgumentException" "java/lang/IllegalArgumentException") (by decide +kernel)).use rfl) hcell hv hcl ?_
  refine lv_astore_n (lv' := [(3, .ref q9), (0, .ref o), (1, .int (x0)), (2, .int (x1))]) hx hb dL_billet_11 rfl hl9 (by decide) rfl (fun sl9 hl9 => ?_)
  refine lv_ldc (v := (-1000002)) hx hb Z.1.2.2.2.1 (hts (.constant RL 21 (-1000002)) (by decide +kernel)) dL_billet_12 ?_
  exact hret _ _ _ _ _ sl9 _ _ () Mz9 rfl rfl rfl (Nat.le_of_ble_eq_true rfl) (Nat.le_of_ble_eq_true rfl) dL_billet_14
set_option maxHeartbeats 4000000 in
set_option maxRecDepth 100000 in
theorem lk_billet_3 (l : Launch) (D : va_G) (T : Nat → ClassId) (ea mi : Nat) (sa : Nat → Nat) (o : Nat) (x0 x1 : Int32) {vs : List Value} {wt : va_W} {rm : Room} (hM : ZB l yX5_billet wsX5_billet rm (zW ea mi sa) D T ((o, .inr (6, vs)) :: wt) [.ref o, .int x0, .int x1] "java/lang/IllegalStateException") (hrm : rm.cells = 1 ∧ rm.slots = 6) : ZIH l yL_billet wsL_billet (lkR rm 4 1 6) (zX ea mi sa) D T (S := Unit) ((o, .inr (6, vs)) :: wt) (fun _ => ((o, .inr (6, vs)) :: wt)) [.ref o, .int x0, .int x1] (-1000003) 1 6 := by
  refine z_inIHW (cc := cL_billet) (maxL := 4) (hh := [(0, 6, 7, 16), (0, 6, 11, 19), (0, 6, 15, 26)]) (rt := .int) (by decide +kernel) rfl (Nat.le_of_ble_eq_true rfl) ?_
  intro p e s m args below meth c sl9 A Q Z hX htb hnm Mz9 hl9 hret
  have Z : zC p s m args c cL_billet 4 RL wsL_billet D T A := Z
  have hx := Z.1.1
  have hb := Z.1.2.1
  have hts := Z.1.2.2.2.2
  have hl9 : lv_has sl9 4 [(0, .ref o), (1, .int (x0)), (2, .int (x1))] := hl9
  obtain ⟨is9, hp1, hp2, hp3⟩ := mid_put4 [] ((o, .inr (6, vs)) :: wt)
  refine lv_aload_n hx hb dL_billet_0 rfl (lv_at hl9 0 rfl) ?_
  refine lv_iload_n hx hb dL_billet_1 rfl (lv_at hl9 1 rfl) ?_
  refine lv_iload_n hx hb dL_billet_2 rfl (lv_at hl9 2 rfl) ?_
  refine z_callVx (As := [.int (x0), .int (x1)]) (rest := []) (wc := ((o, .inr (6, vs)) :: wt)) (zW_k ea mi sa) hX.1 Z Mz9 hM (cwV 2 hts gL_billet_X5_billet rfl hrm.1 hrm.2 (by decide +kernel) ⟨Nat.le_refl _, Nat.le_refl _⟩) is9 hp1 hp2 (va_recv Z.2.1 Mz9.1 (ci := 6) (q0 := 0) rfl rfl) rfl hl9.1 (Nat.le_of_ble_eq_true rfl) dL_billet_3 ⟨Nat.le_of_ble_eq_true rfl, Nat.le_of_ble_eq_true rfl⟩ rfl (fun Hp9 lc9 q9 ce Mz9 hcell hv hcl => ?_)
  refine vx_catch (name := "java/lang/IllegalStateException") Z.1.2.2.2.1 [(⟨0, 6, 7, 16⟩ : ExceptionTableEntry), (⟨0, 6, 11, 19⟩ : ExceptionTableEntry)] (⟨0, 6, 15, 26⟩ : ExceptionTableEntry) [] htb (List.forall_mem_cons.mpr ⟨Or.inr ⟨by decide, "java/lang/IndexOutOfBoundsException", hts (.classLink RL 16 "java/lang/IndexOutOfBoundsException") (by decide +kernel), hX.2.2.1⟩, List.forall_mem_cons.mpr ⟨Or.inr ⟨by decide, "java/lang/IllegalArgumentException", hts (.classLink RL 19 "java/lang/IllegalArgumentException") (by decide +kernel), hX.2.2.2⟩, fun _ hz => absurd hz List.not_mem_nil⟩⟩) (by decide) (by decide) (hts (.classLink RL 26 "java/lang/IllegalStateException") (by decide +kernel)) ((zWw hX.1 (w := .castable "java/lang/IllegalStateException" "java/lang/IllegalStateException") (by decide +kernel)).use rfl) hcell hv hcl ?_
  refine lv_astore_n (lv' := [(3, .ref q9), (0, .ref o), (1, .int (x0)), (2, .int (x1))]) hx hb dL_billet_15 rfl hl9 (by decide) rfl (fun sl9 hl9 => ?_)
  refine lv_ldc (v := (-1000003)) hx hb Z.1.2.2.2.1 (hts (.constant RL 28 (-1000003)) (by decide +kernel)) dL_billet_16 ?_
  exact hret _ _ _ _ _ sl9 _ _ () Mz9 rfl rfl rfl (Nat.le_of_ble_eq_true rfl) (Nat.le_of_ble_eq_true rfl) dL_billet_18
set_option maxHeartbeats 4000000 in
set_option maxRecDepth 100000 in
theorem lk_billetIs (l : Launch) (D : va_G) (T : Nat → ClassId) (ea mi : Nat) (sa : Nat → Nat) (o : Nat) (x0 x1 : Int32) {vs : List Value} {wt : va_W} {rm : Room} {S : Type} {w' : S → va_W} {mc ms : Nat} {rv : Int32} (hM : ZIH l yX5_billetIs wsX5_billetIs rm (zW ea mi sa) D T (S := S) ((o, .inr (6, vs)) :: wt) w' [.ref o, .int x0, .int x1] rv mc ms) (hrm : rm.cells = mc ∧ rm.slots = ms) (hf : ∀ (u : S) (j : Nat), j < ((o, .inr (6, vs)) :: wt).length → ((w' u).map Prod.fst)[j]? = (((o, .inr (6, vs)) :: wt).map Prod.fst)[j]?) (hlen : ∀ u : S, ((o, .inr (6, vs)) :: wt).length ≤ (w' u).length) : ZIH l yL_billetIs wsL_billetIs (lkR rm 4 mc ms) (zX ea mi sa) D T (S := S) ((o, .inr (6, vs)) :: wt) w' [.ref o, .int x0, .int x1] rv mc ms := by
  refine z_inIHW (cc := cL_billetIs) (maxL := 4) (hh := [(0, 6, 7, 16), (0, 6, 11, 19)]) (rt := .int) (by decide +kernel) rfl (Nat.le_of_ble_eq_true rfl) ?_
  intro p e s m args below meth c sl9 A Q Z hX htb hnm Mz9 hl9 hret
  have Z : zC p s m args c cL_billetIs 4 RL wsL_billetIs D T A := Z
  have hx := Z.1.1
  have hb := Z.1.2.1
  have hts := Z.1.2.2.2.2
  have hl9 : lv_has sl9 4 [(0, .ref o), (1, .int (x0)), (2, .int (x1))] := hl9
  obtain ⟨is9, hp1, hp2, hp3⟩ := mid_put4 [] ((o, .inr (6, vs)) :: wt)
  refine lv_aload_n hx hb dL_billetIs_0 rfl (lv_at hl9 0 rfl) ?_
  refine lv_iload_n hx hb dL_billetIs_1 rfl (lv_at hl9 1 rfl) ?_
  refine lv_iload_n hx hb dL_billetIs_2 rfl (lv_at hl9 2 rfl) ?_
  refine z_callViH (As := [.int (x0), .int (x1)]) (rest := []) (wc := ((o, .inr (6, vs)) :: wt)) (zW_k ea mi sa) hX.1 Z Mz9 hM (cwV 2 hts gL_billetIs_X5_billetIs rfl hrm.1 hrm.2 (by decide +kernel) ⟨Nat.le_refl _, Nat.le_refl _⟩) is9 hp1 hp2 hf hlen (va_recv Z.2.1 Mz9.1 (ci := 6) (q0 := 0) rfl rfl) rfl hl9.1 (Nat.le_of_ble_eq_true rfl) dL_billetIs_3 ⟨Nat.le_of_eq (Nat.zero_add _), Nat.le_of_eq (Nat.zero_add _)⟩ rfl (fun u Hp9 lc9 Mz9 => ?_)
  have Mz9 : zM D A s.heap (w' u) _ _ := zM_w (hp3 _ (hlen u)) Mz9
  exact hret _ _ _ _ _ sl9 _ _ u Mz9 rfl (rfl) rfl (Nat.le_of_eq (Nat.zero_add _)) (Nat.le_of_eq (Nat.zero_add _)) dL_billetIs_6
set_option maxHeartbeats 4000000 in
set_option maxRecDepth 100000 in
theorem lk_billetIs_1 (l : Launch) (D : va_G) (T : Nat → ClassId) (ea mi : Nat) (sa : Nat → Nat) (o : Nat) (x0 x1 : Int32) {vs : List Value} {wt : va_W} {rm : Room} (hM : ZB l yX5_billetIs wsX5_billetIs rm (zW ea mi sa) D T ((o, .inr (6, vs)) :: wt) [.ref o, .int x0, .int x1] "java/lang/IndexOutOfBoundsException") (hrm : rm.cells = 1 ∧ rm.slots = 6) : ZIH l yL_billetIs wsL_billetIs (lkR rm 4 1 6) (zX ea mi sa) D T (S := Unit) ((o, .inr (6, vs)) :: wt) (fun _ => ((o, .inr (6, vs)) :: wt)) [.ref o, .int x0, .int x1] (-1000001) 1 6 := by
  refine z_inIHW (cc := cL_billetIs) (maxL := 4) (hh := [(0, 6, 7, 16), (0, 6, 11, 19)]) (rt := .int) (by decide +kernel) rfl (Nat.le_of_ble_eq_true rfl) ?_
  intro p e s m args below meth c sl9 A Q Z hX htb hnm Mz9 hl9 hret
  have Z : zC p s m args c cL_billetIs 4 RL wsL_billetIs D T A := Z
  have hx := Z.1.1
  have hb := Z.1.2.1
  have hts := Z.1.2.2.2.2
  have hl9 : lv_has sl9 4 [(0, .ref o), (1, .int (x0)), (2, .int (x1))] := hl9
  obtain ⟨is9, hp1, hp2, hp3⟩ := mid_put4 [] ((o, .inr (6, vs)) :: wt)
  refine lv_aload_n hx hb dL_billetIs_0 rfl (lv_at hl9 0 rfl) ?_
  refine lv_iload_n hx hb dL_billetIs_1 rfl (lv_at hl9 1 rfl) ?_
  refine lv_iload_n hx hb dL_billetIs_2 rfl (lv_at hl9 2 rfl) ?_
  refine z_callVx (As := [.int (x0), .int (x1)]) (rest := []) (wc := ((o, .inr (6, vs)) :: wt)) (zW_k ea mi sa) hX.1 Z Mz9 hM (cwV 2 hts gL_billetIs_X5_billetIs rfl hrm.1 hrm.2 (by decide +kernel) ⟨Nat.le_refl _, Nat.le_refl _⟩) is9 hp1 hp2 (va_recv Z.2.1 Mz9.1 (ci := 6) (q0 := 0) rfl rfl) rfl hl9.1 (Nat.le_of_ble_eq_true rfl) dL_billetIs_3 ⟨Nat.le_of_ble_eq_true rfl, Nat.le_of_ble_eq_true rfl⟩ rfl (fun Hp9 lc9 q9 ce Mz9 hcell hv hcl => ?_)
  refine vx_catch (name := "java/lang/IndexOutOfBoundsException") Z.1.2.2.2.1 [] (⟨0, 6, 7, 16⟩ : ExceptionTableEntry) [(⟨0, 6, 11, 19⟩ : ExceptionTableEntry)] htb (fun z hz => absurd hz List.not_mem_nil) (by decide) (by decide) (hts (.classLink RL 16 "java/lang/IndexOutOfBoundsException") (by decide +kernel)) ((zWw hX.1 (w := .castable "java/lang/IndexOutOfBoundsException" "java/lang/IndexOutOfBoundsException") (by decide +kernel)).use rfl) hcell hv hcl ?_
  refine lv_astore_n (lv' := [(3, .ref q9), (0, .ref o), (1, .int (x0)), (2, .int (x1))]) hx hb dL_billetIs_7 rfl hl9 (by decide) rfl (fun sl9 hl9 => ?_)
  refine lv_ldc (v := (-1000001)) hx hb Z.1.2.2.2.1 (hts (.constant RL 18 (-1000001)) (by decide +kernel)) dL_billetIs_8 ?_
  exact hret _ _ _ _ _ sl9 _ _ () Mz9 rfl rfl rfl (Nat.le_of_ble_eq_true rfl) (Nat.le_of_ble_eq_true rfl) dL_billetIs_10
set_option maxHeartbeats 4000000 in
set_option maxRecDepth 100000 in
theorem lk_billetIs_2 (l : Launch) (D : va_G) (T : Nat → ClassId) (ea mi : Nat) (sa : Nat → Nat) (o : Nat) (x0 x1 : Int32) {vs : List Value} {wt : va_W} {rm : Room} (hM : ZB l yX5_billetIs wsX5_billetIs rm (zW ea mi sa) D T ((o, .inr (6, vs)) :: wt) [.ref o, .int x0, .int x1] "java/lang/IllegalArgumentException") (hrm : rm.cells = 1 ∧ rm.slots = 6) : ZIH l yL_billetIs wsL_billetIs (lkR rm 4 1 6) (zX ea mi sa) D T (S := Unit) ((o, .inr (6, vs)) :: wt) (fun _ => ((o, .inr (6, vs)) :: wt)) [.ref o, .int x0, .int x1] (-1000002) 1 6 := by
  refine z_inIHW (cc := cL_billetIs) (maxL := 4) (hh := [(0, 6, 7, 16), (0, 6, 11, 19)]) (rt := .int) (by decide +kernel) rfl (Nat.le_of_ble_eq_true rfl) ?_
  intro p e s m args below meth c sl9 A Q Z hX htb hnm Mz9 hl9 hret
  have Z : zC p s m args c cL_billetIs 4 RL wsL_billetIs D T A := Z
  have hx := Z.1.1
  have hb := Z.1.2.1
  have hts := Z.1.2.2.2.2
  have hl9 : lv_has sl9 4 [(0, .ref o), (1, .int (x0)), (2, .int (x1))] := hl9
  obtain ⟨is9, hp1, hp2, hp3⟩ := mid_put4 [] ((o, .inr (6, vs)) :: wt)
  refine lv_aload_n hx hb dL_billetIs_0 rfl (lv_at hl9 0 rfl) ?_
  refine lv_iload_n hx hb dL_billetIs_1 rfl (lv_at hl9 1 rfl) ?_
  refine lv_iload_n hx hb dL_billetIs_2 rfl (lv_at hl9 2 rfl) ?_
  refine z_callVx (As := [.int (x0), .int (x1)]) (rest := []) (wc := ((o, .inr (6, vs)) :: wt)) (zW_k ea mi sa) hX.1 Z Mz9 hM (cwV 2 hts gL_billetIs_X5_billetIs rfl hrm.1 hrm.2 (by decide +kernel) ⟨Nat.le_refl _, Nat.le_refl _⟩) is9 hp1 hp2 (va_recv Z.2.1 Mz9.1 (ci := 6) (q0 := 0) rfl rfl) rfl hl9.1 (Nat.le_of_ble_eq_true rfl) dL_billetIs_3 ⟨Nat.le_of_ble_eq_true rfl, Nat.le_of_ble_eq_true rfl⟩ rfl (fun Hp9 lc9 q9 ce Mz9 hcell hv hcl => ?_)
  refine vx_catch (name := "java/lang/IllegalArgumentException") Z.1.2.2.2.1 [(⟨0, 6, 7, 16⟩ : ExceptionTableEntry)] (⟨0, 6, 11, 19⟩ : ExceptionTableEntry) [] htb (List.forall_mem_cons.mpr ⟨Or.inr ⟨by decide, "java/lang/IndexOutOfBoundsException", hts (.classLink RL 16 "java/lang/IndexOutOfBoundsException") (by decide +kernel), hX.2.1⟩, fun _ hz => absurd hz List.not_mem_nil⟩) (by decide) (by decide) (hts (.classLink RL 19 "java/lang/IllegalArgumentException") (by decide +kernel)) ((zWw hX.1 (w := .castable "java/lang/IllegalArgumentException" "java/lang/IllegalArgumentException") (by decide +kernel)).use rfl) hcell hv hcl ?_
  refine lv_astore_n (lv' := [(3, .ref q9), (0, .ref o), (1, .int (x0)), (2, .int (x1))]) hx hb dL_billetIs_11 rfl hl9 (by decide) rfl (fun sl9 hl9 => ?_)
  refine lv_ldc (v := (-1000002)) hx hb Z.1.2.2.2.1 (hts (.constant RL 21 (-1000002)) (by decide +kernel)) dL_billetIs_12 ?_
  exact hret _ _ _ _ _ sl9 _ _ () Mz9 rfl rfl rfl (Nat.le_of_ble_eq_true rfl) (Nat.le_of_ble_eq_true rfl) dL_billetIs_14
set_option maxHeartbeats 4000000 in
set_option maxRecDepth 100000 in
theorem lk_area (l : Launch) (D : va_G) (T : Nat → ClassId) (ea mi : Nat) (sa : Nat → Nat) (o : Nat) (x0 x1 : Int32) {vs : List Value} {wt : va_W} {rm : Room} {S : Type} {w' : S → va_W} {mc ms : Nat} {rv : Int32} (hM : ZIH l yX5_area wsX5_area rm (zW ea mi sa) D T (S := S) ((o, .inr (6, vs)) :: wt) w' [.ref o, .int x0, .int x1] rv mc ms) (hrm : rm.cells = mc ∧ rm.slots = ms) (hf : ∀ (u : S) (j : Nat), j < ((o, .inr (6, vs)) :: wt).length → ((w' u).map Prod.fst)[j]? = (((o, .inr (6, vs)) :: wt).map Prod.fst)[j]?) (hlen : ∀ u : S, ((o, .inr (6, vs)) :: wt).length ≤ (w' u).length) : ZIH l yL_area wsL_area (lkR rm 4 mc ms) (zX ea mi sa) D T (S := S) ((o, .inr (6, vs)) :: wt) w' [.ref o, .int x0, .int x1] rv mc ms := by
  refine z_inIHW (cc := cL_area) (maxL := 4) (hh := [(0, 6, 7, 16)]) (rt := .int) (by decide +kernel) rfl (Nat.le_of_ble_eq_true rfl) ?_
  intro p e s m args below meth c sl9 A Q Z hX htb hnm Mz9 hl9 hret
  have Z : zC p s m args c cL_area 4 RL wsL_area D T A := Z
  have hx := Z.1.1
  have hb := Z.1.2.1
  have hts := Z.1.2.2.2.2
  have hl9 : lv_has sl9 4 [(0, .ref o), (1, .int (x0)), (2, .int (x1))] := hl9
  obtain ⟨is9, hp1, hp2, hp3⟩ := mid_put4 [] ((o, .inr (6, vs)) :: wt)
  refine lv_aload_n hx hb dL_area_0 rfl (lv_at hl9 0 rfl) ?_
  refine lv_iload_n hx hb dL_area_1 rfl (lv_at hl9 1 rfl) ?_
  refine lv_iload_n hx hb dL_area_2 rfl (lv_at hl9 2 rfl) ?_
  refine z_callViH (As := [.int (x0), .int (x1)]) (rest := []) (wc := ((o, .inr (6, vs)) :: wt)) (zW_k ea mi sa) hX.1 Z Mz9 hM (cwV 2 hts gL_area_X5_area rfl hrm.1 hrm.2 (by decide +kernel) ⟨Nat.le_refl _, Nat.le_refl _⟩) is9 hp1 hp2 hf hlen (va_recv Z.2.1 Mz9.1 (ci := 6) (q0 := 0) rfl rfl) rfl hl9.1 (Nat.le_of_ble_eq_true rfl) dL_area_3 ⟨Nat.le_of_eq (Nat.zero_add _), Nat.le_of_eq (Nat.zero_add _)⟩ rfl (fun u Hp9 lc9 Mz9 => ?_)
  have Mz9 : zM D A s.heap (w' u) _ _ := zM_w (hp3 _ (hlen u)) Mz9
  exact hret _ _ _ _ _ sl9 _ _ u Mz9 rfl (rfl) rfl (Nat.le_of_eq (Nat.zero_add _)) (Nat.le_of_eq (Nat.zero_add _)) dL_area_6
set_option maxHeartbeats 4000000 in
set_option maxRecDepth 100000 in
theorem lk_area_1 (l : Launch) (D : va_G) (T : Nat → ClassId) (ea mi : Nat) (sa : Nat → Nat) (o : Nat) (x0 x1 : Int32) {vs : List Value} {wt : va_W} {rm : Room} (hM : ZB l yX5_area wsX5_area rm (zW ea mi sa) D T ((o, .inr (6, vs)) :: wt) [.ref o, .int x0, .int x1] "java/lang/IndexOutOfBoundsException") (hrm : rm.cells = 1 ∧ rm.slots = 6) : ZIH l yL_area wsL_area (lkR rm 4 1 6) (zX ea mi sa) D T (S := Unit) ((o, .inr (6, vs)) :: wt) (fun _ => ((o, .inr (6, vs)) :: wt)) [.ref o, .int x0, .int x1] (-1000001) 1 6 := by
  refine z_inIHW (cc := cL_area) (maxL := 4) (hh := [(0, 6, 7, 16)]) (rt := .int) (by decide +kernel) rfl (Nat.le_of_ble_eq_true rfl) ?_
  intro p e s m args below meth c sl9 A Q Z hX htb hnm Mz9 hl9 hret
  have Z : zC p s m args c cL_area 4 RL wsL_area D T A := Z
  have hx := Z.1.1
  have hb := Z.1.2.1
  have hts := Z.1.2.2.2.2
  have hl9 : lv_has sl9 4 [(0, .ref o), (1, .int (x0)), (2, .int (x1))] := hl9
  obtain ⟨is9, hp1, hp2, hp3⟩ := mid_put4 [] ((o, .inr (6, vs)) :: wt)
  refine lv_aload_n hx hb dL_area_0 rfl (lv_at hl9 0 rfl) ?_
  refine lv_iload_n hx hb dL_area_1 rfl (lv_at hl9 1 rfl) ?_
  refine lv_iload_n hx hb dL_area_2 rfl (lv_at hl9 2 rfl) ?_
  refine z_callVx (As := [.int (x0), .int (x1)]) (rest := []) (wc := ((o, .inr (6, vs)) :: wt)) (zW_k ea mi sa) hX.1 Z Mz9 hM (cwV 2 hts gL_area_X5_area rfl hrm.1 hrm.2 (by decide +kernel) ⟨Nat.le_refl _, Nat.le_refl _⟩) is9 hp1 hp2 (va_recv Z.2.1 Mz9.1 (ci := 6) (q0 := 0) rfl rfl) rfl hl9.1 (Nat.le_of_ble_eq_true rfl) dL_area_3 ⟨Nat.le_of_ble_eq_true rfl, Nat.le_of_ble_eq_true rfl⟩ rfl (fun Hp9 lc9 q9 ce Mz9 hcell hv hcl => ?_)
  refine vx_catch (name := "java/lang/IndexOutOfBoundsException") Z.1.2.2.2.1 [] (⟨0, 6, 7, 16⟩ : ExceptionTableEntry) [] htb (fun z hz => absurd hz List.not_mem_nil) (by decide) (by decide) (hts (.classLink RL 16 "java/lang/IndexOutOfBoundsException") (by decide +kernel)) ((zWw hX.1 (w := .castable "java/lang/IndexOutOfBoundsException" "java/lang/IndexOutOfBoundsException") (by decide +kernel)).use rfl) hcell hv hcl ?_
  refine lv_astore_n (lv' := [(3, .ref q9), (0, .ref o), (1, .int (x0)), (2, .int (x1))]) hx hb dL_area_7 rfl hl9 (by decide) rfl (fun sl9 hl9 => ?_)
  refine lv_ldc (v := (-1000001)) hx hb Z.1.2.2.2.1 (hts (.constant RL 18 (-1000001)) (by decide +kernel)) dL_area_8 ?_
  exact hret _ _ _ _ _ sl9 _ _ () Mz9 rfl rfl rfl (Nat.le_of_ble_eq_true rfl) (Nat.le_of_ble_eq_true rfl) dL_area_10
set_option maxHeartbeats 4000000 in
set_option maxRecDepth 100000 in
theorem lk_balances (l : Launch) (D : va_G) (T : Nat → ClassId) (ea mi : Nat) (sa : Nat → Nat) (o : Nat) (x0 : Int32) {vs : List Value} {wt : va_W} {rm : Room} {S : Type} {w' : S → va_W} {mc ms : Nat} {rv : Int32} (hM : ZIH l yX5_balances wsX5_balances rm (zW ea mi sa) D T (S := S) ((o, .inr (6, vs)) :: wt) w' [.ref o, .int x0] rv mc ms) (hrm : rm.cells = mc ∧ rm.slots = ms) (hf : ∀ (u : S) (j : Nat), j < ((o, .inr (6, vs)) :: wt).length → ((w' u).map Prod.fst)[j]? = (((o, .inr (6, vs)) :: wt).map Prod.fst)[j]?) (hlen : ∀ u : S, ((o, .inr (6, vs)) :: wt).length ≤ (w' u).length) : ZIH l yL_balances wsL_balances (lkR rm 3 mc ms) (zX ea mi sa) D T (S := S) ((o, .inr (6, vs)) :: wt) w' [.ref o, .int x0] (if rv = 0 then 0 else 1) mc ms := by
  refine z_inIHW (cc := cL_balances) (maxL := 3) (hh := [(0, 13, 14, 16)]) (rt := .int) (by decide +kernel) rfl (Nat.le_of_ble_eq_true rfl) ?_
  intro p e s m args below meth c sl9 A Q Z hX htb hnm Mz9 hl9 hret
  have Z : zC p s m args c cL_balances 3 RL wsL_balances D T A := Z
  have hx := Z.1.1
  have hb := Z.1.2.1
  have hts := Z.1.2.2.2.2
  have hl9 : lv_has sl9 3 [(0, .ref o), (1, .int (x0))] := hl9
  obtain ⟨is9, hp1, hp2, hp3⟩ := mid_put4 [] ((o, .inr (6, vs)) :: wt)
  refine lv_aload_n hx hb dL_balances_0 rfl (lv_at hl9 0 rfl) ?_
  refine lv_iload_n hx hb dL_balances_1 rfl (lv_at hl9 1 rfl) ?_
  refine z_callViH (As := [.int (x0)]) (rest := []) (wc := ((o, .inr (6, vs)) :: wt)) (zW_k ea mi sa) hX.1 Z Mz9 hM (cwV 1 hts gL_balances_X5_balances rfl hrm.1 hrm.2 (by decide +kernel) ⟨Nat.le_refl _, Nat.le_refl _⟩) is9 hp1 hp2 hf hlen (va_recv Z.2.1 Mz9.1 (ci := 6) (q0 := 0) rfl rfl) rfl hl9.1 (Nat.le_of_ble_eq_true rfl) dL_balances_2 ⟨Nat.le_of_eq (Nat.zero_add _), Nat.le_of_eq (Nat.zero_add _)⟩ rfl (fun u Hp9 lc9 Mz9 => ?_)
  have Mz9 : zM D A s.heap (w' u) _ _ := zM_w (hp3 _ (hlen u)) Mz9
  refine lv_if_eq (tgt := 12) hx hb dL_balances_5 (by decide) (fun c1 => ?_) (fun c1 => ?_)
  ·
    refine lv_iconst (v := 0) hx hb dL_balances_12 (by decide) ?_
    exact hret _ _ _ _ _ sl9 _ _ u Mz9 rfl (by rw [if_pos c1]) rfl (Nat.le_of_eq (Nat.zero_add _)) (Nat.le_of_eq (Nat.zero_add _)) dL_balances_13
  ·
    refine lv_iconst (v := 1) hx hb dL_balances_8 (by decide) ?_
    refine lv_goto (tgt := 13) hx hb dL_balances_9 (by decide) ?_
    exact hret _ _ _ _ _ sl9 _ _ u Mz9 rfl (by rw [if_neg c1]) rfl (Nat.le_of_eq (Nat.zero_add _)) (Nat.le_of_eq (Nat.zero_add _)) dL_balances_13
set_option maxHeartbeats 4000000 in
set_option maxRecDepth 100000 in
theorem lk_balances_1 (l : Launch) (D : va_G) (T : Nat → ClassId) (ea mi : Nat) (sa : Nat → Nat) (o : Nat) (x0 : Int32) {vs : List Value} {wt : va_W} {rm : Room} (hM : ZB l yX5_balances wsX5_balances rm (zW ea mi sa) D T ((o, .inr (6, vs)) :: wt) [.ref o, .int x0] "java/lang/IndexOutOfBoundsException") (hrm : rm.cells = 1 ∧ rm.slots = 6) : ZIH l yL_balances wsL_balances (lkR rm 3 1 6) (zX ea mi sa) D T (S := Unit) ((o, .inr (6, vs)) :: wt) (fun _ => ((o, .inr (6, vs)) :: wt)) [.ref o, .int x0] (-1000001) 1 6 := by
  refine z_inIHW (cc := cL_balances) (maxL := 3) (hh := [(0, 13, 14, 16)]) (rt := .int) (by decide +kernel) rfl (Nat.le_of_ble_eq_true rfl) ?_
  intro p e s m args below meth c sl9 A Q Z hX htb hnm Mz9 hl9 hret
  have Z : zC p s m args c cL_balances 3 RL wsL_balances D T A := Z
  have hx := Z.1.1
  have hb := Z.1.2.1
  have hts := Z.1.2.2.2.2
  have hl9 : lv_has sl9 3 [(0, .ref o), (1, .int (x0))] := hl9
  obtain ⟨is9, hp1, hp2, hp3⟩ := mid_put4 [] ((o, .inr (6, vs)) :: wt)
  refine lv_aload_n hx hb dL_balances_0 rfl (lv_at hl9 0 rfl) ?_
  refine lv_iload_n hx hb dL_balances_1 rfl (lv_at hl9 1 rfl) ?_
  refine z_callVx (As := [.int (x0)]) (rest := []) (wc := ((o, .inr (6, vs)) :: wt)) (zW_k ea mi sa) hX.1 Z Mz9 hM (cwV 1 hts gL_balances_X5_balances rfl hrm.1 hrm.2 (by decide +kernel) ⟨Nat.le_refl _, Nat.le_refl _⟩) is9 hp1 hp2 (va_recv Z.2.1 Mz9.1 (ci := 6) (q0 := 0) rfl rfl) rfl hl9.1 (Nat.le_of_ble_eq_true rfl) dL_balances_2 ⟨Nat.le_of_ble_eq_true rfl, Nat.le_of_ble_eq_true rfl⟩ rfl (fun Hp9 lc9 q9 ce Mz9 hcell hv hcl => ?_)
  refine vx_catch (name := "java/lang/IndexOutOfBoundsException") Z.1.2.2.2.1 [] (⟨0, 13, 14, 16⟩ : ExceptionTableEntry) [] htb (fun z hz => absurd hz List.not_mem_nil) (by decide) (by decide) (hts (.classLink RL 16 "java/lang/IndexOutOfBoundsException") (by decide +kernel)) ((zWw hX.1 (w := .castable "java/lang/IndexOutOfBoundsException" "java/lang/IndexOutOfBoundsException") (by decide +kernel)).use rfl) hcell hv hcl ?_
  refine lv_astore_n (lv' := [(2, .ref q9), (0, .ref o), (1, .int (x0))]) hx hb dL_balances_14 rfl hl9 (by decide) rfl (fun sl9 hl9 => ?_)
  refine lv_ldc (v := (-1000001)) hx hb Z.1.2.2.2.1 (hts (.constant RL 18 (-1000001)) (by decide +kernel)) dL_balances_15 ?_
  exact hret _ _ _ _ _ sl9 _ _ () Mz9 rfl rfl rfl (Nat.le_of_ble_eq_true rfl) (Nat.le_of_ble_eq_true rfl) dL_balances_17
set_option maxHeartbeats 4000000 in
set_option maxRecDepth 100000 in
theorem lk_heat (l : Launch) (D : va_G) (T : Nat → ClassId) (ea mi : Nat) (sa : Nat → Nat) (o : Nat) (x0 x1 x2 : Int32) {vs : List Value} {wt : va_W} {rm : Room} {S : Type} {w' : S → va_W} {mc ms : Nat} {rv : Int32} (hM : ZIH l yX5_heat wsX5_heat rm (zW ea mi sa) D T (S := S) ((o, .inr (6, vs)) :: wt) w' [.ref o, .int x0, .int x1, .int x2] rv mc ms) (hrm : rm.cells = mc ∧ rm.slots = ms) (hf : ∀ (u : S) (j : Nat), j < ((o, .inr (6, vs)) :: wt).length → ((w' u).map Prod.fst)[j]? = (((o, .inr (6, vs)) :: wt).map Prod.fst)[j]?) (hlen : ∀ u : S, ((o, .inr (6, vs)) :: wt).length ≤ (w' u).length) : ZIH l yL_heat wsL_heat (lkR rm 5 mc ms) (zX ea mi sa) D T (S := S) ((o, .inr (6, vs)) :: wt) w' [.ref o, .int x0, .int x1, .int x2] rv mc ms := by
  refine z_inIHW (cc := cL_heat) (maxL := 5) (hh := [(0, 7, 8, 16), (0, 7, 13, 19), (0, 7, 18, 26)]) (rt := .int) (by decide +kernel) rfl (Nat.le_of_ble_eq_true rfl) ?_
  intro p e s m args below meth c sl9 A Q Z hX htb hnm Mz9 hl9 hret
  have Z : zC p s m args c cL_heat 5 RL wsL_heat D T A := Z
  have hx := Z.1.1
  have hb := Z.1.2.1
  have hts := Z.1.2.2.2.2
  have hl9 : lv_has sl9 5 [(0, .ref o), (1, .int (x0)), (2, .int (x1)), (3, .int (x2))] := hl9
  obtain ⟨is9, hp1, hp2, hp3⟩ := mid_put4 [] ((o, .inr (6, vs)) :: wt)
  refine lv_aload_n hx hb dL_heat_0 rfl (lv_at hl9 0 rfl) ?_
  refine lv_iload_n hx hb dL_heat_1 rfl (lv_at hl9 1 rfl) ?_
  refine lv_iload_n hx hb dL_heat_2 rfl (lv_at hl9 2 rfl) ?_
  refine lv_iload_n hx hb dL_heat_3 rfl (lv_at hl9 3 rfl) ?_
  refine z_callViH (As := [.int (x0), .int (x1), .int (x2)]) (rest := []) (wc := ((o, .inr (6, vs)) :: wt)) (zW_k ea mi sa) hX.1 Z Mz9 hM (cwV 3 hts gL_heat_X5_heat rfl hrm.1 hrm.2 (by decide +kernel) ⟨Nat.le_refl _, Nat.le_refl _⟩) is9 hp1 hp2 hf hlen (va_recv Z.2.1 Mz9.1 (ci := 6) (q0 := 0) rfl rfl) rfl hl9.1 (Nat.le_of_ble_eq_true rfl) dL_heat_4 ⟨Nat.le_of_eq (Nat.zero_add _), Nat.le_of_eq (Nat.zero_add _)⟩ rfl (fun u Hp9 lc9 Mz9 => ?_)
  have Mz9 : zM D A s.heap (w' u) _ _ := zM_w (hp3 _ (hlen u)) Mz9
  exact hret _ _ _ _ _ sl9 _ _ u Mz9 rfl (rfl) rfl (Nat.le_of_eq (Nat.zero_add _)) (Nat.le_of_eq (Nat.zero_add _)) dL_heat_7
set_option maxHeartbeats 4000000 in
set_option maxRecDepth 100000 in
theorem lk_heat_1 (l : Launch) (D : va_G) (T : Nat → ClassId) (ea mi : Nat) (sa : Nat → Nat) (o : Nat) (x0 x1 x2 : Int32) {vs : List Value} {wt : va_W} {rm : Room} (hM : ZB l yX5_heat wsX5_heat rm (zW ea mi sa) D T ((o, .inr (6, vs)) :: wt) [.ref o, .int x0, .int x1, .int x2] "java/lang/IndexOutOfBoundsException") (hrm : rm.cells = 1 ∧ rm.slots = 6) : ZIH l yL_heat wsL_heat (lkR rm 5 1 6) (zX ea mi sa) D T (S := Unit) ((o, .inr (6, vs)) :: wt) (fun _ => ((o, .inr (6, vs)) :: wt)) [.ref o, .int x0, .int x1, .int x2] (-1000001) 1 6 := by
  refine z_inIHW (cc := cL_heat) (maxL := 5) (hh := [(0, 7, 8, 16), (0, 7, 13, 19), (0, 7, 18, 26)]) (rt := .int) (by decide +kernel) rfl (Nat.le_of_ble_eq_true rfl) ?_
  intro p e s m args below meth c sl9 A Q Z hX htb hnm Mz9 hl9 hret
  have Z : zC p s m args c cL_heat 5 RL wsL_heat D T A := Z
  have hx := Z.1.1
  have hb := Z.1.2.1
  have hts := Z.1.2.2.2.2
  have hl9 : lv_has sl9 5 [(0, .ref o), (1, .int (x0)), (2, .int (x1)), (3, .int (x2))] := hl9
  obtain ⟨is9, hp1, hp2, hp3⟩ := mid_put4 [] ((o, .inr (6, vs)) :: wt)
  refine lv_aload_n hx hb dL_heat_0 rfl (lv_at hl9 0 rfl) ?_
  refine lv_iload_n hx hb dL_heat_1 rfl (lv_at hl9 1 rfl) ?_
  refine lv_iload_n hx hb dL_heat_2 rfl (lv_at hl9 2 rfl) ?_
  refine lv_iload_n hx hb dL_heat_3 rfl (lv_at hl9 3 rfl) ?_
  refine z_callVx (As := [.int (x0), .int (x1), .int (x2)]) (rest := []) (wc := ((o, .inr (6, vs)) :: wt)) (zW_k ea mi sa) hX.1 Z Mz9 hM (cwV 3 hts gL_heat_X5_heat rfl hrm.1 hrm.2 (by decide +kernel) ⟨Nat.le_refl _, Nat.le_refl _⟩) is9 hp1 hp2 (va_recv Z.2.1 Mz9.1 (ci := 6) (q0 := 0) rfl rfl) rfl hl9.1 (Nat.le_of_ble_eq_true rfl) dL_heat_4 ⟨Nat.le_of_ble_eq_true rfl, Nat.le_of_ble_eq_true rfl⟩ rfl (fun Hp9 lc9 q9 ce Mz9 hcell hv hcl => ?_)
  refine vx_catch (name := "java/lang/IndexOutOfBoundsException") Z.1.2.2.2.1 [] (⟨0, 7, 8, 16⟩ : ExceptionTableEntry) [(⟨0, 7, 13, 19⟩ : ExceptionTableEntry), (⟨0, 7, 18, 26⟩ : ExceptionTableEntry)] htb (fun z hz => absurd hz List.not_mem_nil) (by decide) (by decide) (hts (.classLink RL 16 "java/lang/IndexOutOfBoundsException") (by decide +kernel)) ((zWw hX.1 (w := .castable "java/lang/IndexOutOfBoundsException" "java/lang/IndexOutOfBoundsException") (by decide +kernel)).use rfl) hcell hv hcl ?_
  refine lv_astore (lv' := [(4, .ref q9), (0, .ref o), (1, .int (x0)), (2, .int (x1)), (3, .int (x2))]) hx hb dL_heat_8 hl9 (by decide) rfl (fun sl9 hl9 => ?_)
  refine lv_ldc (v := (-1000001)) hx hb Z.1.2.2.2.1 (hts (.constant RL 18 (-1000001)) (by decide +kernel)) dL_heat_10 ?_
  exact hret _ _ _ _ _ sl9 _ _ () Mz9 rfl rfl rfl (Nat.le_of_ble_eq_true rfl) (Nat.le_of_ble_eq_true rfl) dL_heat_12
set_option maxHeartbeats 4000000 in
set_option maxRecDepth 100000 in
theorem lk_heat_2 (l : Launch) (D : va_G) (T : Nat → ClassId) (ea mi : Nat) (sa : Nat → Nat) (o : Nat) (x0 x1 x2 : Int32) {vs : List Value} {wt : va_W} {rm : Room} (hM : ZB l yX5_heat wsX5_heat rm (zW ea mi sa) D T ((o, .inr (6, vs)) :: wt) [.ref o, .int x0, .int x1, .int x2] "java/lang/IllegalArgumentException") (hrm : rm.cells = 1 ∧ rm.slots = 6) : ZIH l yL_heat wsL_heat (lkR rm 5 1 6) (zX ea mi sa) D T (S := Unit) ((o, .inr (6, vs)) :: wt) (fun _ => ((o, .inr (6, vs)) :: wt)) [.ref o, .int x0, .int x1, .int x2] (-1000002) 1 6 := by
  refine z_inIHW (cc := cL_heat) (maxL := 5) (hh := [(0, 7, 8, 16), (0, 7, 13, 19), (0, 7, 18, 26)]) (rt := .int) (by decide +kernel) rfl (Nat.le_of_ble_eq_true rfl) ?_
  intro p e s m args below meth c sl9 A Q Z hX htb hnm Mz9 hl9 hret
  have Z : zC p s m args c cL_heat 5 RL wsL_heat D T A := Z
  have hx := Z.1.1
  have hb := Z.1.2.1
  have hts := Z.1.2.2.2.2
  have hl9 : lv_has sl9 5 [(0, .ref o), (1, .int (x0)), (2, .int (x1)), (3, .int (x2))] := hl9
  obtain ⟨is9, hp1, hp2, hp3⟩ := mid_put4 [] ((o, .inr (6, vs)) :: wt)
  refine lv_aload_n hx hb dL_heat_0 rfl (lv_at hl9 0 rfl) ?_
  refine lv_iload_n hx hb dL_heat_1 rfl (lv_at hl9 1 rfl) ?_
  refine lv_iload_n hx hb dL_heat_2 rfl (lv_at hl9 2 rfl) ?_
  refine lv_iload_n hx hb dL_heat_3 rfl (lv_at hl9 3 rfl) ?_
  refine z_callVx (As := [.int (x0), .int (x1), .int (x2)]) (rest := []) (wc := ((o, .inr (6, vs)) :: wt)) (zW_k ea mi sa) hX.1 Z Mz9 hM (cwV 3 hts gL_heat_X5_heat rfl hrm.1 hrm.2 (by decide +kernel) ⟨Nat.le_refl _, Nat.le_refl _⟩) is9 hp1 hp2 (va_recv Z.2.1 Mz9.1 (ci := 6) (q0 := 0) rfl rfl) rfl hl9.1 (Nat.le_of_ble_eq_true rfl) dL_heat_4 ⟨Nat.le_of_ble_eq_true rfl, Nat.le_of_ble_eq_true rfl⟩ rfl (fun Hp9 lc9 q9 ce Mz9 hcell hv hcl => ?_)
  refine vx_catch (name := "java/lang/IllegalArgumentException") Z.1.2.2.2.1 [(⟨0, 7, 8, 16⟩ : ExceptionTableEntry)] (⟨0, 7, 13, 19⟩ : ExceptionTableEntry) [(⟨0, 7, 18, 26⟩ : ExceptionTableEntry)] htb (List.forall_mem_cons.mpr ⟨Or.inr ⟨by decide, "java/lang/IndexOutOfBoundsException", hts (.classLink RL 16 "java/lang/IndexOutOfBoundsException") (by decide +kernel), hX.2.1⟩, fun _ hz => absurd hz List.not_mem_nil⟩) (by decide) (by decide) (hts (.classLink RL 19 "java/lang/IllegalArgumentException") (by decide +kernel)) ((zWw hX.1 (w := .castable "java/lang/IllegalArgumentException" "java/lang/IllegalArgumentException") (by decide +kernel)).use rfl) hcell hv hcl ?_
  refine lv_astore (lv' := [(4, .ref q9), (0, .ref o), (1, .int (x0)), (2, .int (x1)), (3, .int (x2))]) hx hb dL_heat_13 hl9 (by decide) rfl (fun sl9 hl9 => ?_)
  refine lv_ldc (v := (-1000002)) hx hb Z.1.2.2.2.1 (hts (.constant RL 21 (-1000002)) (by decide +kernel)) dL_heat_15 ?_
  exact hret _ _ _ _ _ sl9 _ _ () Mz9 rfl rfl rfl (Nat.le_of_ble_eq_true rfl) (Nat.le_of_ble_eq_true rfl) dL_heat_17
set_option maxHeartbeats 4000000 in
set_option maxRecDepth 100000 in
theorem lk_heat_3 (l : Launch) (D : va_G) (T : Nat → ClassId) (ea mi : Nat) (sa : Nat → Nat) (o : Nat) (x0 x1 x2 : Int32) {vs : List Value} {wt : va_W} {rm : Room} (hM : ZB l yX5_heat wsX5_heat rm (zW ea mi sa) D T ((o, .inr (6, vs)) :: wt) [.ref o, .int x0, .int x1, .int x2] "java/lang/IllegalStateException") (hrm : rm.cells = 1 ∧ rm.slots = 6) : ZIH l yL_heat wsL_heat (lkR rm 5 1 6) (zX ea mi sa) D T (S := Unit) ((o, .inr (6, vs)) :: wt) (fun _ => ((o, .inr (6, vs)) :: wt)) [.ref o, .int x0, .int x1, .int x2] (-1000003) 1 6 := by
  refine z_inIHW (cc := cL_heat) (maxL := 5) (hh := [(0, 7, 8, 16), (0, 7, 13, 19), (0, 7, 18, 26)]) (rt := .int) (by decide +kernel) rfl (Nat.le_of_ble_eq_true rfl) ?_
  intro p e s m args below meth c sl9 A Q Z hX htb hnm Mz9 hl9 hret
  have Z : zC p s m args c cL_heat 5 RL wsL_heat D T A := Z
  have hx := Z.1.1
  have hb := Z.1.2.1
  have hts := Z.1.2.2.2.2
  have hl9 : lv_has sl9 5 [(0, .ref o), (1, .int (x0)), (2, .int (x1)), (3, .int (x2))] := hl9
  obtain ⟨is9, hp1, hp2, hp3⟩ := mid_put4 [] ((o, .inr (6, vs)) :: wt)
  refine lv_aload_n hx hb dL_heat_0 rfl (lv_at hl9 0 rfl) ?_
  refine lv_iload_n hx hb dL_heat_1 rfl (lv_at hl9 1 rfl) ?_
  refine lv_iload_n hx hb dL_heat_2 rfl (lv_at hl9 2 rfl) ?_
  refine lv_iload_n hx hb dL_heat_3 rfl (lv_at hl9 3 rfl) ?_
  refine z_callVx (As := [.int (x0), .int (x1), .int (x2)]) (rest := []) (wc := ((o, .inr (6, vs)) :: wt)) (zW_k ea mi sa) hX.1 Z Mz9 hM (cwV 3 hts gL_heat_X5_heat rfl hrm.1 hrm.2 (by decide +kernel) ⟨Nat.le_refl _, Nat.le_refl _⟩) is9 hp1 hp2 (va_recv Z.2.1 Mz9.1 (ci := 6) (q0 := 0) rfl rfl) rfl hl9.1 (Nat.le_of_ble_eq_true rfl) dL_heat_4 ⟨Nat.le_of_ble_eq_true rfl, Nat.le_of_ble_eq_true rfl⟩ rfl (fun Hp9 lc9 q9 ce Mz9 hcell hv hcl => ?_)
  refine vx_catch (name := "java/lang/IllegalStateException") Z.1.2.2.2.1 [(⟨0, 7, 8, 16⟩ : ExceptionTableEntry), (⟨0, 7, 13, 19⟩ : ExceptionTableEntry)] (⟨0, 7, 18, 26⟩ : ExceptionTableEntry) [] htb (List.forall_mem_cons.mpr ⟨Or.inr ⟨by decide, "java/lang/IndexOutOfBoundsException", hts (.classLink RL 16 "java/lang/IndexOutOfBoundsException") (by decide +kernel), hX.2.2.1⟩, List.forall_mem_cons.mpr ⟨Or.inr ⟨by decide, "java/lang/IllegalArgumentException", hts (.classLink RL 19 "java/lang/IllegalArgumentException") (by decide +kernel), hX.2.2.2⟩, fun _ hz => absurd hz List.not_mem_nil⟩⟩) (by decide) (by decide) (hts (.classLink RL 26 "java/lang/IllegalStateException") (by decide +kernel)) ((zWw hX.1 (w := .castable "java/lang/IllegalStateException" "java/lang/IllegalStateException") (by decide +kernel)).use rfl) hcell hv hcl ?_
  refine lv_astore (lv' := [(4, .ref q9), (0, .ref o), (1, .int (x0)), (2, .int (x1)), (3, .int (x2))]) hx hb dL_heat_18 hl9 (by decide) rfl (fun sl9 hl9 => ?_)
  refine lv_ldc (v := (-1000003)) hx hb Z.1.2.2.2.1 (hts (.constant RL 28 (-1000003)) (by decide +kernel)) dL_heat_20 ?_
  exact hret _ _ _ _ _ sl9 _ _ () Mz9 rfl rfl rfl (Nat.le_of_ble_eq_true rfl) (Nat.le_of_ble_eq_true rfl) dL_heat_22
set_option maxHeartbeats 4000000 in
set_option maxRecDepth 100000 in
theorem lk_cool (l : Launch) (D : va_G) (T : Nat → ClassId) (ea mi : Nat) (sa : Nat → Nat) (o : Nat) (x0 x1 : Int32) {vs : List Value} {wt : va_W} {rm : Room} {S : Type} {w' : S → va_W} {mc ms : Nat} {rv : Int32} (hM : ZIH l yX5_cool wsX5_cool rm (zW ea mi sa) D T (S := S) ((o, .inr (6, vs)) :: wt) w' [.ref o, .int x0, .int x1] rv mc ms) (hrm : rm.cells = mc ∧ rm.slots = ms) (hf : ∀ (u : S) (j : Nat), j < ((o, .inr (6, vs)) :: wt).length → ((w' u).map Prod.fst)[j]? = (((o, .inr (6, vs)) :: wt).map Prod.fst)[j]?) (hlen : ∀ u : S, ((o, .inr (6, vs)) :: wt).length ≤ (w' u).length) : ZIH l yL_cool wsL_cool (lkR rm 5 mc ms) (zX ea mi sa) D T (S := S) ((o, .inr (6, vs)) :: wt) w' [.ref o, .int x0, .int x1] rv mc ms := by
  refine z_inIHW (cc := cL_cool) (maxL := 4) (hh := [(0, 6, 7, 16), (0, 6, 11, 19)]) (rt := .int) (by decide +kernel) rfl (Nat.le_of_ble_eq_true rfl) ?_
  intro p e s m args below meth c sl9 A Q Z hX htb hnm Mz9 hl9 hret
  have Z : zC p s m args c cL_cool 4 RL wsL_cool D T A := Z
  have hx := Z.1.1
  have hb := Z.1.2.1
  have hts := Z.1.2.2.2.2
  have hl9 : lv_has sl9 4 [(0, .ref o), (1, .int (x0)), (2, .int (x1))] := hl9
  obtain ⟨is9, hp1, hp2, hp3⟩ := mid_put4 [] ((o, .inr (6, vs)) :: wt)
  refine lv_aload_n hx hb dL_cool_0 rfl (lv_at hl9 0 rfl) ?_
  refine lv_iload_n hx hb dL_cool_1 rfl (lv_at hl9 1 rfl) ?_
  refine lv_iload_n hx hb dL_cool_2 rfl (lv_at hl9 2 rfl) ?_
  refine z_callViH (As := [.int (x0), .int (x1)]) (rest := []) (wc := ((o, .inr (6, vs)) :: wt)) (zW_k ea mi sa) hX.1 Z Mz9 hM (cwV 2 hts gL_cool_X5_cool rfl hrm.1 hrm.2 (by decide +kernel) ⟨Nat.le_refl _, Nat.le_refl _⟩) is9 hp1 hp2 hf hlen (va_recv Z.2.1 Mz9.1 (ci := 6) (q0 := 0) rfl rfl) rfl hl9.1 (Nat.le_of_ble_eq_true rfl) dL_cool_3 ⟨Nat.le_of_eq (Nat.zero_add _), Nat.le_of_eq (Nat.zero_add _)⟩ rfl (fun u Hp9 lc9 Mz9 => ?_)
  have Mz9 : zM D A s.heap (w' u) _ _ := zM_w (hp3 _ (hlen u)) Mz9
  exact hret _ _ _ _ _ sl9 _ _ u Mz9 rfl (rfl) rfl (Nat.le_of_eq (Nat.zero_add _)) (Nat.le_of_eq (Nat.zero_add _)) dL_cool_6
set_option maxHeartbeats 4000000 in
set_option maxRecDepth 100000 in
theorem lk_cool_1 (l : Launch) (D : va_G) (T : Nat → ClassId) (ea mi : Nat) (sa : Nat → Nat) (o : Nat) (x0 x1 : Int32) {vs : List Value} {wt : va_W} {rm : Room} (hM : ZB l yX5_cool wsX5_cool rm (zW ea mi sa) D T ((o, .inr (6, vs)) :: wt) [.ref o, .int x0, .int x1] "java/lang/IndexOutOfBoundsException") (hrm : rm.cells = 1 ∧ rm.slots = 6) : ZIH l yL_cool wsL_cool (lkR rm 5 1 6) (zX ea mi sa) D T (S := Unit) ((o, .inr (6, vs)) :: wt) (fun _ => ((o, .inr (6, vs)) :: wt)) [.ref o, .int x0, .int x1] (-1000001) 1 6 := by
  refine z_inIHW (cc := cL_cool) (maxL := 4) (hh := [(0, 6, 7, 16), (0, 6, 11, 19)]) (rt := .int) (by decide +kernel) rfl (Nat.le_of_ble_eq_true rfl) ?_
  intro p e s m args below meth c sl9 A Q Z hX htb hnm Mz9 hl9 hret
  have Z : zC p s m args c cL_cool 4 RL wsL_cool D T A := Z
  have hx := Z.1.1
  have hb := Z.1.2.1
  have hts := Z.1.2.2.2.2
  have hl9 : lv_has sl9 4 [(0, .ref o), (1, .int (x0)), (2, .int (x1))] := hl9
  obtain ⟨is9, hp1, hp2, hp3⟩ := mid_put4 [] ((o, .inr (6, vs)) :: wt)
  refine lv_aload_n hx hb dL_cool_0 rfl (lv_at hl9 0 rfl) ?_
  refine lv_iload_n hx hb dL_cool_1 rfl (lv_at hl9 1 rfl) ?_
  refine lv_iload_n hx hb dL_cool_2 rfl (lv_at hl9 2 rfl) ?_
  refine z_callVx (As := [.int (x0), .int (x1)]) (rest := []) (wc := ((o, .inr (6, vs)) :: wt)) (zW_k ea mi sa) hX.1 Z Mz9 hM (cwV 2 hts gL_cool_X5_cool rfl hrm.1 hrm.2 (by decide +kernel) ⟨Nat.le_refl _, Nat.le_refl _⟩) is9 hp1 hp2 (va_recv Z.2.1 Mz9.1 (ci := 6) (q0 := 0) rfl rfl) rfl hl9.1 (Nat.le_of_ble_eq_true rfl) dL_cool_3 ⟨Nat.le_of_ble_eq_true rfl, Nat.le_of_ble_eq_true rfl⟩ rfl (fun Hp9 lc9 q9 ce Mz9 hcell hv hcl => ?_)
  refine vx_catch (name := "java/lang/IndexOutOfBoundsException") Z.1.2.2.2.1 [] (⟨0, 6, 7, 16⟩ : ExceptionTableEntry) [(⟨0, 6, 11, 19⟩ : ExceptionTableEntry)] htb (fun z hz => absurd hz List.not_mem_nil) (by decide) (by decide) (hts (.classLink RL 16 "java/lang/IndexOutOfBoundsException") (by decide +kernel)) ((zWw hX.1 (w := .castable "java/lang/IndexOutOfBoundsException" "java/lang/IndexOutOfBoundsException") (by decide +kernel)).use rfl) hcell hv hcl ?_
  refine lv_astore_n (lv' := [(3, .ref q9), (0, .ref o), (1, .int (x0)), (2, .int (x1))]) hx hb dL_cool_7 rfl hl9 (by decide) rfl (fun sl9 hl9 => ?_)
  refine lv_ldc (v := (-1000001)) hx hb Z.1.2.2.2.1 (hts (.constant RL 18 (-1000001)) (by decide +kernel)) dL_cool_8 ?_
  exact hret _ _ _ _ _ sl9 _ _ () Mz9 rfl rfl rfl (Nat.le_of_ble_eq_true rfl) (Nat.le_of_ble_eq_true rfl) dL_cool_10
set_option maxHeartbeats 4000000 in
set_option maxRecDepth 100000 in
theorem lk_cool_2 (l : Launch) (D : va_G) (T : Nat → ClassId) (ea mi : Nat) (sa : Nat → Nat) (o : Nat) (x0 x1 : Int32) {vs : List Value} {wt : va_W} {rm : Room} (hM : ZB l yX5_cool wsX5_cool rm (zW ea mi sa) D T ((o, .inr (6, vs)) :: wt) [.ref o, .int x0, .int x1] "java/lang/IllegalArgumentException") (hrm : rm.cells = 1 ∧ rm.slots = 6) : ZIH l yL_cool wsL_cool (lkR rm 5 1 6) (zX ea mi sa) D T (S := Unit) ((o, .inr (6, vs)) :: wt) (fun _ => ((o, .inr (6, vs)) :: wt)) [.ref o, .int x0, .int x1] (-1000002) 1 6 := by
  refine z_inIHW (cc := cL_cool) (maxL := 4) (hh := [(0, 6, 7, 16), (0, 6, 11, 19)]) (rt := .int) (by decide +kernel) rfl (Nat.le_of_ble_eq_true rfl) ?_
  intro p e s m args below meth c sl9 A Q Z hX htb hnm Mz9 hl9 hret
  have Z : zC p s m args c cL_cool 4 RL wsL_cool D T A := Z
  have hx := Z.1.1
  have hb := Z.1.2.1
  have hts := Z.1.2.2.2.2
  have hl9 : lv_has sl9 4 [(0, .ref o), (1, .int (x0)), (2, .int (x1))] := hl9
  obtain ⟨is9, hp1, hp2, hp3⟩ := mid_put4 [] ((o, .inr (6, vs)) :: wt)
  refine lv_aload_n hx hb dL_cool_0 rfl (lv_at hl9 0 rfl) ?_
  refine lv_iload_n hx hb dL_cool_1 rfl (lv_at hl9 1 rfl) ?_
  refine lv_iload_n hx hb dL_cool_2 rfl (lv_at hl9 2 rfl) ?_
  refine z_callVx (As := [.int (x0), .int (x1)]) (rest := []) (wc := ((o, .inr (6, vs)) :: wt)) (zW_k ea mi sa) hX.1 Z Mz9 hM (cwV 2 hts gL_cool_X5_cool rfl hrm.1 hrm.2 (by decide +kernel) ⟨Nat.le_refl _, Nat.le_refl _⟩) is9 hp1 hp2 (va_recv Z.2.1 Mz9.1 (ci := 6) (q0 := 0) rfl rfl) rfl hl9.1 (Nat.le_of_ble_eq_true rfl) dL_cool_3 ⟨Nat.le_of_ble_eq_true rfl, Nat.le_of_ble_eq_true rfl⟩ rfl (fun Hp9 lc9 q9 ce Mz9 hcell hv hcl => ?_)
  refine vx_catch (name := "java/lang/IllegalArgumentException") Z.1.2.2.2.1 [(⟨0, 6, 7, 16⟩ : ExceptionTableEntry)] (⟨0, 6, 11, 19⟩ : ExceptionTableEntry) [] htb (List.forall_mem_cons.mpr ⟨Or.inr ⟨by decide, "java/lang/IndexOutOfBoundsException", hts (.classLink RL 16 "java/lang/IndexOutOfBoundsException") (by decide +kernel), hX.2.1⟩, fun _ hz => absurd hz List.not_mem_nil⟩) (by decide) (by decide) (hts (.classLink RL 19 "java/lang/IllegalArgumentException") (by decide +kernel)) ((zWw hX.1 (w := .castable "java/lang/IllegalArgumentException" "java/lang/IllegalArgumentException") (by decide +kernel)).use rfl) hcell hv hcl ?_
  refine lv_astore_n (lv' := [(3, .ref q9), (0, .ref o), (1, .int (x0)), (2, .int (x1))]) hx hb dL_cool_11 rfl hl9 (by decide) rfl (fun sl9 hl9 => ?_)
  refine lv_ldc (v := (-1000002)) hx hb Z.1.2.2.2.1 (hts (.constant RL 21 (-1000002)) (by decide +kernel)) dL_cool_12 ?_
  exact hret _ _ _ _ _ sl9 _ _ () Mz9 rfl rfl rfl (Nat.le_of_ble_eq_true rfl) (Nat.le_of_ble_eq_true rfl) dL_cool_14
set_option maxHeartbeats 4000000 in
set_option maxRecDepth 100000 in
theorem lk_blow (l : Launch) (D : va_G) (T : Nat → ClassId) (ea mi : Nat) (sa : Nat → Nat) (o : Nat) (x0 x1 x2 x3 : Int32) {vs : List Value} {wt : va_W} {rm : Room} {S : Type} {w' : S → va_W} {mc ms : Nat} {rv : Int32} (hM : ZIH l yX5_blow wsX5_blow rm (zW ea mi sa) D T (S := S) ((o, .inr (6, vs)) :: wt) w' [.ref o, .int x0, .int x1, .int x2, .int x3] rv mc ms) (hrm : rm.cells = mc ∧ rm.slots = ms) (hf : ∀ (u : S) (j : Nat), j < ((o, .inr (6, vs)) :: wt).length → ((w' u).map Prod.fst)[j]? = (((o, .inr (6, vs)) :: wt).map Prod.fst)[j]?) (hlen : ∀ u : S, ((o, .inr (6, vs)) :: wt).length ≤ (w' u).length) : ZIH l yL_blow wsL_blow (lkR rm 7 mc ms) (zX ea mi sa) D T (S := S) ((o, .inr (6, vs)) :: wt) w' [.ref o, .int x0, .int x1, .int x2, .int x3] rv mc ms := by
  refine z_inIHW (cc := cL_blow) (maxL := 6) (hh := [(0, 9, 10, 16), (0, 9, 15, 19), (0, 9, 20, 26)]) (rt := .int) (by decide +kernel) rfl (Nat.le_of_ble_eq_true rfl) ?_
  intro p e s m args below meth c sl9 A Q Z hX htb hnm Mz9 hl9 hret
  have Z : zC p s m args c cL_blow 6 RL wsL_blow D T A := Z
  have hx := Z.1.1
  have hb := Z.1.2.1
  have hts := Z.1.2.2.2.2
  have hl9 : lv_has sl9 6 [(0, .ref o), (1, .int (x0)), (2, .int (x1)), (3, .int (x2)), (4, .int (x3))] := hl9
  obtain ⟨is9, hp1, hp2, hp3⟩ := mid_put4 [] ((o, .inr (6, vs)) :: wt)
  refine lv_aload_n hx hb dL_blow_0 rfl (lv_at hl9 0 rfl) ?_
  refine lv_iload_n hx hb dL_blow_1 rfl (lv_at hl9 1 rfl) ?_
  refine lv_iload_n hx hb dL_blow_2 rfl (lv_at hl9 2 rfl) ?_
  refine lv_iload_n hx hb dL_blow_3 rfl (lv_at hl9 3 rfl) ?_
  refine lv_iload hx hb dL_blow_4 (lv_at hl9 4 rfl) ?_
  refine z_callViH (As := [.int (x0), .int (x1), .int (x2), .int (x3)]) (rest := []) (wc := ((o, .inr (6, vs)) :: wt)) (zW_k ea mi sa) hX.1 Z Mz9 hM (cwV 4 hts gL_blow_X5_blow rfl hrm.1 hrm.2 (by decide +kernel) ⟨Nat.le_refl _, Nat.le_refl _⟩) is9 hp1 hp2 hf hlen (va_recv Z.2.1 Mz9.1 (ci := 6) (q0 := 0) rfl rfl) rfl hl9.1 (Nat.le_of_ble_eq_true rfl) dL_blow_6 ⟨Nat.le_of_eq (Nat.zero_add _), Nat.le_of_eq (Nat.zero_add _)⟩ rfl (fun u Hp9 lc9 Mz9 => ?_)
  have Mz9 : zM D A s.heap (w' u) _ _ := zM_w (hp3 _ (hlen u)) Mz9
  exact hret _ _ _ _ _ sl9 _ _ u Mz9 rfl (rfl) rfl (Nat.le_of_eq (Nat.zero_add _)) (Nat.le_of_eq (Nat.zero_add _)) dL_blow_9
set_option maxHeartbeats 4000000 in
set_option maxRecDepth 100000 in
theorem lk_blow_1 (l : Launch) (D : va_G) (T : Nat → ClassId) (ea mi : Nat) (sa : Nat → Nat) (o : Nat) (x0 x1 x2 x3 : Int32) {vs : List Value} {wt : va_W} {rm : Room} (hM : ZB l yX5_blow wsX5_blow rm (zW ea mi sa) D T ((o, .inr (6, vs)) :: wt) [.ref o, .int x0, .int x1, .int x2, .int x3] "java/lang/IndexOutOfBoundsException") (hrm : rm.cells = 1 ∧ rm.slots = 6) : ZIH l yL_blow wsL_blow (lkR rm 7 1 6) (zX ea mi sa) D T (S := Unit) ((o, .inr (6, vs)) :: wt) (fun _ => ((o, .inr (6, vs)) :: wt)) [.ref o, .int x0, .int x1, .int x2, .int x3] (-1000001) 1 6 := by
  refine z_inIHW (cc := cL_blow) (maxL := 6) (hh := [(0, 9, 10, 16), (0, 9, 15, 19), (0, 9, 20, 26)]) (rt := .int) (by decide +kernel) rfl (Nat.le_of_ble_eq_true rfl) ?_
  intro p e s m args below meth c sl9 A Q Z hX htb hnm Mz9 hl9 hret
  have Z : zC p s m args c cL_blow 6 RL wsL_blow D T A := Z
  have hx := Z.1.1
  have hb := Z.1.2.1
  have hts := Z.1.2.2.2.2
  have hl9 : lv_has sl9 6 [(0, .ref o), (1, .int (x0)), (2, .int (x1)), (3, .int (x2)), (4, .int (x3))] := hl9
  obtain ⟨is9, hp1, hp2, hp3⟩ := mid_put4 [] ((o, .inr (6, vs)) :: wt)
  refine lv_aload_n hx hb dL_blow_0 rfl (lv_at hl9 0 rfl) ?_
  refine lv_iload_n hx hb dL_blow_1 rfl (lv_at hl9 1 rfl) ?_
  refine lv_iload_n hx hb dL_blow_2 rfl (lv_at hl9 2 rfl) ?_
  refine lv_iload_n hx hb dL_blow_3 rfl (lv_at hl9 3 rfl) ?_
  refine lv_iload hx hb dL_blow_4 (lv_at hl9 4 rfl) ?_
  refine z_callVx (As := [.int (x0), .int (x1), .int (x2), .int (x3)]) (rest := []) (wc := ((o, .inr (6, vs)) :: wt)) (zW_k ea mi sa) hX.1 Z Mz9 hM (cwV 4 hts gL_blow_X5_blow rfl hrm.1 hrm.2 (by decide +kernel) ⟨Nat.le_refl _, Nat.le_refl _⟩) is9 hp1 hp2 (va_recv Z.2.1 Mz9.1 (ci := 6) (q0 := 0) rfl rfl) rfl hl9.1 (Nat.le_of_ble_eq_true rfl) dL_blow_6 ⟨Nat.le_of_ble_eq_true rfl, Nat.le_of_ble_eq_true rfl⟩ rfl (fun Hp9 lc9 q9 ce Mz9 hcell hv hcl => ?_)
  refine vx_catch (name := "java/lang/IndexOutOfBoundsException") Z.1.2.2.2.1 [] (⟨0, 9, 10, 16⟩ : ExceptionTableEntry) [(⟨0, 9, 15, 19⟩ : ExceptionTableEntry), (⟨0, 9, 20, 26⟩ : ExceptionTableEntry)] htb (fun z hz => absurd hz List.not_mem_nil) (by decide) (by decide) (hts (.classLink RL 16 "java/lang/IndexOutOfBoundsException") (by decide +kernel)) ((zWw hX.1 (w := .castable "java/lang/IndexOutOfBoundsException" "java/lang/IndexOutOfBoundsException") (by decide +kernel)).use rfl) hcell hv hcl ?_
  refine lv_astore (lv' := [(5, .ref q9), (0, .ref o), (1, .int (x0)), (2, .int (x1)), (3, .int (x2)), (4, .int (x3))]) hx hb dL_blow_10 hl9 (by decide) rfl (fun sl9 hl9 => ?_)
  refine lv_ldc (v := (-1000001)) hx hb Z.1.2.2.2.1 (hts (.constant RL 18 (-1000001)) (by decide +kernel)) dL_blow_12 ?_
  exact hret _ _ _ _ _ sl9 _ _ () Mz9 rfl rfl rfl (Nat.le_of_ble_eq_true rfl) (Nat.le_of_ble_eq_true rfl) dL_blow_14
set_option maxHeartbeats 4000000 in
set_option maxRecDepth 100000 in
theorem lk_blow_2 (l : Launch) (D : va_G) (T : Nat → ClassId) (ea mi : Nat) (sa : Nat → Nat) (o : Nat) (x0 x1 x2 x3 : Int32) {vs : List Value} {wt : va_W} {rm : Room} (hM : ZB l yX5_blow wsX5_blow rm (zW ea mi sa) D T ((o, .inr (6, vs)) :: wt) [.ref o, .int x0, .int x1, .int x2, .int x3] "java/lang/IllegalArgumentException") (hrm : rm.cells = 1 ∧ rm.slots = 6) : ZIH l yL_blow wsL_blow (lkR rm 7 1 6) (zX ea mi sa) D T (S := Unit) ((o, .inr (6, vs)) :: wt) (fun _ => ((o, .inr (6, vs)) :: wt)) [.ref o, .int x0, .int x1, .int x2, .int x3] (-1000002) 1 6 := by
  refine z_inIHW (cc := cL_blow) (maxL := 6) (hh := [(0, 9, 10, 16), (0, 9, 15, 19), (0, 9, 20, 26)]) (rt := .int) (by decide +kernel) rfl (Nat.le_of_ble_eq_true rfl) ?_
  intro p e s m args below meth c sl9 A Q Z hX htb hnm Mz9 hl9 hret
  have Z : zC p s m args c cL_blow 6 RL wsL_blow D T A := Z
  have hx := Z.1.1
  have hb := Z.1.2.1
  have hts := Z.1.2.2.2.2
  have hl9 : lv_has sl9 6 [(0, .ref o), (1, .int (x0)), (2, .int (x1)), (3, .int (x2)), (4, .int (x3))] := hl9
  obtain ⟨is9, hp1, hp2, hp3⟩ := mid_put4 [] ((o, .inr (6, vs)) :: wt)
  refine lv_aload_n hx hb dL_blow_0 rfl (lv_at hl9 0 rfl) ?_
  refine lv_iload_n hx hb dL_blow_1 rfl (lv_at hl9 1 rfl) ?_
  refine lv_iload_n hx hb dL_blow_2 rfl (lv_at hl9 2 rfl) ?_
  refine lv_iload_n hx hb dL_blow_3 rfl (lv_at hl9 3 rfl) ?_
  refine lv_iload hx hb dL_blow_4 (lv_at hl9 4 rfl) ?_
  refine z_callVx (As := [.int (x0), .int (x1), .int (x2), .int (x3)]) (rest := []) (wc := ((o, .inr (6, vs)) :: wt)) (zW_k ea mi sa) hX.1 Z Mz9 hM (cwV 4 hts gL_blow_X5_blow rfl hrm.1 hrm.2 (by decide +kernel) ⟨Nat.le_refl _, Nat.le_refl _⟩) is9 hp1 hp2 (va_recv Z.2.1 Mz9.1 (ci := 6) (q0 := 0) rfl rfl) rfl hl9.1 (Nat.le_of_ble_eq_true rfl) dL_blow_6 ⟨Nat.le_of_ble_eq_true rfl, Nat.le_of_ble_eq_true rfl⟩ rfl (fun Hp9 lc9 q9 ce Mz9 hcell hv hcl => ?_)
  refine vx_catch (name := "java/lang/IllegalArgumentException") Z.1.2.2.2.1 [(⟨0, 9, 10, 16⟩ : ExceptionTableEntry)] (⟨0, 9, 15, 19⟩ : ExceptionTableEntry) [(⟨0, 9, 20, 26⟩ : ExceptionTableEntry)] htb (List.forall_mem_cons.mpr ⟨Or.inr ⟨by decide, "java/lang/IndexOutOfBoundsException", hts (.classLink RL 16 "java/lang/IndexOutOfBoundsException") (by decide +kernel), hX.2.1⟩, fun _ hz => absurd hz List.not_mem_nil⟩) (by decide) (by decide) (hts (.classLink RL 19 "java/lang/IllegalArgumentException") (by decide +kernel)) ((zWw hX.1 (w := .castable "java/lang/IllegalArgumentException" "java/lang/IllegalArgumentException") (by decide +kernel)).use rfl) hcell hv hcl ?_
  refine lv_astore (lv' := [(5, .ref q9), (0, .ref o), (1, .int (x0)), (2, .int (x1)), (3, .int (x2)), (4, .int (x3))]) hx hb dL_blow_15 hl9 (by decide) rfl (fun sl9 hl9 => ?_)
  refine lv_ldc (v := (-1000002)) hx hb Z.1.2.2.2.1 (hts (.constant RL 21 (-1000002)) (by decide +kernel)) dL_blow_17 ?_
  exact hret _ _ _ _ _ sl9 _ _ () Mz9 rfl rfl rfl (Nat.le_of_ble_eq_true rfl) (Nat.le_of_ble_eq_true rfl) dL_blow_19
set_option maxHeartbeats 4000000 in
set_option maxRecDepth 100000 in
theorem lk_blow_3 (l : Launch) (D : va_G) (T : Nat → ClassId) (ea mi : Nat) (sa : Nat → Nat) (o : Nat) (x0 x1 x2 x3 : Int32) {vs : List Value} {wt : va_W} {rm : Room} (hM : ZB l yX5_blow wsX5_blow rm (zW ea mi sa) D T ((o, .inr (6, vs)) :: wt) [.ref o, .int x0, .int x1, .int x2, .int x3] "java/lang/IllegalStateException") (hrm : rm.cells = 1 ∧ rm.slots = 6) : ZIH l yL_blow wsL_blow (lkR rm 7 1 6) (zX ea mi sa) D T (S := Unit) ((o, .inr (6, vs)) :: wt) (fun _ => ((o, .inr (6, vs)) :: wt)) [.ref o, .int x0, .int x1, .int x2, .int x3] (-1000003) 1 6 := by
  refine z_inIHW (cc := cL_blow) (maxL := 6) (hh := [(0, 9, 10, 16), (0, 9, 15, 19), (0, 9, 20, 26)]) (rt := .int) (by decide +kernel) rfl (Nat.le_of_ble_eq_true rfl) ?_
  intro p e s m args below meth c sl9 A Q Z hX htb hnm Mz9 hl9 hret
  have Z : zC p s m args c cL_blow 6 RL wsL_blow D T A := Z
  have hx := Z.1.1
  have hb := Z.1.2.1
  have hts := Z.1.2.2.2.2
  have hl9 : lv_has sl9 6 [(0, .ref o), (1, .int (x0)), (2, .int (x1)), (3, .int (x2)), (4, .int (x3))] := hl9
  obtain ⟨is9, hp1, hp2, hp3⟩ := mid_put4 [] ((o, .inr (6, vs)) :: wt)
  refine lv_aload_n hx hb dL_blow_0 rfl (lv_at hl9 0 rfl) ?_
  refine lv_iload_n hx hb dL_blow_1 rfl (lv_at hl9 1 rfl) ?_
  refine lv_iload_n hx hb dL_blow_2 rfl (lv_at hl9 2 rfl) ?_
  refine lv_iload_n hx hb dL_blow_3 rfl (lv_at hl9 3 rfl) ?_
  refine lv_iload hx hb dL_blow_4 (lv_at hl9 4 rfl) ?_
  refine z_callVx (As := [.int (x0), .int (x1), .int (x2), .int (x3)]) (rest := []) (wc := ((o, .inr (6, vs)) :: wt)) (zW_k ea mi sa) hX.1 Z Mz9 hM (cwV 4 hts gL_blow_X5_blow rfl hrm.1 hrm.2 (by decide +kernel) ⟨Nat.le_refl _, Nat.le_refl _⟩) is9 hp1 hp2 (va_recv Z.2.1 Mz9.1 (ci := 6) (q0 := 0) rfl rfl) rfl hl9.1 (Nat.le_of_ble_eq_true rfl) dL_blow_6 ⟨Nat.le_of_ble_eq_true rfl, Nat.le_of_ble_eq_true rfl⟩ rfl (fun Hp9 lc9 q9 ce Mz9 hcell hv hcl => ?_)
  refine vx_catch (name := "java/lang/IllegalStateException") Z.1.2.2.2.1 [(⟨0, 9, 10, 16⟩ : ExceptionTableEntry), (⟨0, 9, 15, 19⟩ : ExceptionTableEntry)] (⟨0, 9, 20, 26⟩ : ExceptionTableEntry) [] htb (List.forall_mem_cons.mpr ⟨Or.inr ⟨by decide, "java/lang/IndexOutOfBoundsException", hts (.classLink RL 16 "java/lang/IndexOutOfBoundsException") (by decide +kernel), hX.2.2.1⟩, List.forall_mem_cons.mpr ⟨Or.inr ⟨by decide, "java/lang/IllegalArgumentException", hts (.classLink RL 19 "java/lang/IllegalArgumentException") (by decide +kernel), hX.2.2.2⟩, fun _ hz => absurd hz List.not_mem_nil⟩⟩) (by decide) (by decide) (hts (.classLink RL 26 "java/lang/IllegalStateException") (by decide +kernel)) ((zWw hX.1 (w := .castable "java/lang/IllegalStateException" "java/lang/IllegalStateException") (by decide +kernel)).use rfl) hcell hv hcl ?_
  refine lv_astore (lv' := [(5, .ref q9), (0, .ref o), (1, .int (x0)), (2, .int (x1)), (3, .int (x2)), (4, .int (x3))]) hx hb dL_blow_20 hl9 (by decide) rfl (fun sl9 hl9 => ?_)
  refine lv_ldc (v := (-1000003)) hx hb Z.1.2.2.2.1 (hts (.constant RL 28 (-1000003)) (by decide +kernel)) dL_blow_22 ?_
  exact hret _ _ _ _ _ sl9 _ _ () Mz9 rfl rfl rfl (Nat.le_of_ble_eq_true rfl) (Nat.le_of_ble_eq_true rfl) dL_blow_24
set_option maxHeartbeats 4000000 in
set_option maxRecDepth 100000 in
theorem lk_cut (l : Launch) (D : va_G) (T : Nat → ClassId) (ea mi : Nat) (sa : Nat → Nat) (o : Nat) (x0 x1 x2 : Int32) {vs : List Value} {wt : va_W} {rm : Room} {S : Type} {w' : S → va_W} {mc ms : Nat} {rv : Int32} (hM : ZIH l yX5_cut wsX5_cut rm (zW ea mi sa) D T (S := S) ((o, .inr (6, vs)) :: wt) w' [.ref o, .int x0, .int x1, .int x2] rv mc ms) (hrm : rm.cells = mc ∧ rm.slots = ms) (hf : ∀ (u : S) (j : Nat), j < ((o, .inr (6, vs)) :: wt).length → ((w' u).map Prod.fst)[j]? = (((o, .inr (6, vs)) :: wt).map Prod.fst)[j]?) (hlen : ∀ u : S, ((o, .inr (6, vs)) :: wt).length ≤ (w' u).length) : ZIH l yL_cut wsL_cut (lkR rm 6 mc ms) (zX ea mi sa) D T (S := S) ((o, .inr (6, vs)) :: wt) w' [.ref o, .int x0, .int x1, .int x2] rv mc ms := by
  refine z_inIHW (cc := cL_cut) (maxL := 5) (hh := [(0, 7, 8, 16), (0, 7, 13, 19)]) (rt := .int) (by decide +kernel) rfl (Nat.le_of_ble_eq_true rfl) ?_
  intro p e s m args below meth c sl9 A Q Z hX htb hnm Mz9 hl9 hret
  have Z : zC p s m args c cL_cut 5 RL wsL_cut D T A := Z
  have hx := Z.1.1
  have hb := Z.1.2.1
  have hts := Z.1.2.2.2.2
  have hl9 : lv_has sl9 5 [(0, .ref o), (1, .int (x0)), (2, .int (x1)), (3, .int (x2))] := hl9
  obtain ⟨is9, hp1, hp2, hp3⟩ := mid_put4 [] ((o, .inr (6, vs)) :: wt)
  refine lv_aload_n hx hb dL_cut_0 rfl (lv_at hl9 0 rfl) ?_
  refine lv_iload_n hx hb dL_cut_1 rfl (lv_at hl9 1 rfl) ?_
  refine lv_iload_n hx hb dL_cut_2 rfl (lv_at hl9 2 rfl) ?_
  refine lv_iload_n hx hb dL_cut_3 rfl (lv_at hl9 3 rfl) ?_
  refine z_callViH (As := [.int (x0), .int (x1), .int (x2)]) (rest := []) (wc := ((o, .inr (6, vs)) :: wt)) (zW_k ea mi sa) hX.1 Z Mz9 hM (cwV 3 hts gL_cut_X5_cut rfl hrm.1 hrm.2 (by decide +kernel) ⟨Nat.le_refl _, Nat.le_refl _⟩) is9 hp1 hp2 hf hlen (va_recv Z.2.1 Mz9.1 (ci := 6) (q0 := 0) rfl rfl) rfl hl9.1 (Nat.le_of_ble_eq_true rfl) dL_cut_4 ⟨Nat.le_of_eq (Nat.zero_add _), Nat.le_of_eq (Nat.zero_add _)⟩ rfl (fun u Hp9 lc9 Mz9 => ?_)
  have Mz9 : zM D A s.heap (w' u) _ _ := zM_w (hp3 _ (hlen u)) Mz9
  exact hret _ _ _ _ _ sl9 _ _ u Mz9 rfl (rfl) rfl (Nat.le_of_eq (Nat.zero_add _)) (Nat.le_of_eq (Nat.zero_add _)) dL_cut_7
set_option maxHeartbeats 4000000 in
set_option maxRecDepth 100000 in
theorem lk_cut_1 (l : Launch) (D : va_G) (T : Nat → ClassId) (ea mi : Nat) (sa : Nat → Nat) (o : Nat) (x0 x1 x2 : Int32) {vs : List Value} {wt : va_W} {rm : Room} (hM : ZB l yX5_cut wsX5_cut rm (zW ea mi sa) D T ((o, .inr (6, vs)) :: wt) [.ref o, .int x0, .int x1, .int x2] "java/lang/IndexOutOfBoundsException") (hrm : rm.cells = 1 ∧ rm.slots = 6) : ZIH l yL_cut wsL_cut (lkR rm 6 1 6) (zX ea mi sa) D T (S := Unit) ((o, .inr (6, vs)) :: wt) (fun _ => ((o, .inr (6, vs)) :: wt)) [.ref o, .int x0, .int x1, .int x2] (-1000001) 1 6 := by
  refine z_inIHW (cc := cL_cut) (maxL := 5) (hh := [(0, 7, 8, 16), (0, 7, 13, 19)]) (rt := .int) (by decide +kernel) rfl (Nat.le_of_ble_eq_true rfl) ?_
  intro p e s m args below meth c sl9 A Q Z hX htb hnm Mz9 hl9 hret
  have Z : zC p s m args c cL_cut 5 RL wsL_cut D T A := Z
  have hx := Z.1.1
  have hb := Z.1.2.1
  have hts := Z.1.2.2.2.2
  have hl9 : lv_has sl9 5 [(0, .ref o), (1, .int (x0)), (2, .int (x1)), (3, .int (x2))] := hl9
  obtain ⟨is9, hp1, hp2, hp3⟩ := mid_put4 [] ((o, .inr (6, vs)) :: wt)
  refine lv_aload_n hx hb dL_cut_0 rfl (lv_at hl9 0 rfl) ?_
  refine lv_iload_n hx hb dL_cut_1 rfl (lv_at hl9 1 rfl) ?_
  refine lv_iload_n hx hb dL_cut_2 rfl (lv_at hl9 2 rfl) ?_
  refine lv_iload_n hx hb dL_cut_3 rfl (lv_at hl9 3 rfl) ?_
  refine z_callVx (As := [.int (x0), .int (x1), .int (x2)]) (rest := []) (wc := ((o, .inr (6, vs)) :: wt)) (zW_k ea mi sa) hX.1 Z Mz9 hM (cwV 3 hts gL_cut_X5_cut rfl hrm.1 hrm.2 (by decide +kernel) ⟨Nat.le_refl _, Nat.le_refl _⟩) is9 hp1 hp2 (va_recv Z.2.1 Mz9.1 (ci := 6) (q0 := 0) rfl rfl) rfl hl9.1 (Nat.le_of_ble_eq_true rfl) dL_cut_4 ⟨Nat.le_of_ble_eq_true rfl, Nat.le_of_ble_eq_true rfl⟩ rfl (fun Hp9 lc9 q9 ce Mz9 hcell hv hcl => ?_)
  refine vx_catch (name := "java/lang/IndexOutOfBoundsException") Z.1.2.2.2.1 [] (⟨0, 7, 8, 16⟩ : ExceptionTableEntry) [(⟨0, 7, 13, 19⟩ : ExceptionTableEntry)] htb (fun z hz => absurd hz List.not_mem_nil) (by decide) (by decide) (hts (.classLink RL 16 "java/lang/IndexOutOfBoundsException") (by decide +kernel)) ((zWw hX.1 (w := .castable "java/lang/IndexOutOfBoundsException" "java/lang/IndexOutOfBoundsException") (by decide +kernel)).use rfl) hcell hv hcl ?_
  refine lv_astore (lv' := [(4, .ref q9), (0, .ref o), (1, .int (x0)), (2, .int (x1)), (3, .int (x2))]) hx hb dL_cut_8 hl9 (by decide) rfl (fun sl9 hl9 => ?_)
  refine lv_ldc (v := (-1000001)) hx hb Z.1.2.2.2.1 (hts (.constant RL 18 (-1000001)) (by decide +kernel)) dL_cut_10 ?_
  exact hret _ _ _ _ _ sl9 _ _ () Mz9 rfl rfl rfl (Nat.le_of_ble_eq_true rfl) (Nat.le_of_ble_eq_true rfl) dL_cut_12
set_option maxHeartbeats 4000000 in
set_option maxRecDepth 100000 in
theorem lk_cut_2 (l : Launch) (D : va_G) (T : Nat → ClassId) (ea mi : Nat) (sa : Nat → Nat) (o : Nat) (x0 x1 x2 : Int32) {vs : List Value} {wt : va_W} {rm : Room} (hM : ZB l yX5_cut wsX5_cut rm (zW ea mi sa) D T ((o, .inr (6, vs)) :: wt) [.ref o, .int x0, .int x1, .int x2] "java/lang/IllegalArgumentException") (hrm : rm.cells = 1 ∧ rm.slots = 6) : ZIH l yL_cut wsL_cut (lkR rm 6 1 6) (zX ea mi sa) D T (S := Unit) ((o, .inr (6, vs)) :: wt) (fun _ => ((o, .inr (6, vs)) :: wt)) [.ref o, .int x0, .int x1, .int x2] (-1000002) 1 6 := by
  refine z_inIHW (cc := cL_cut) (maxL := 5) (hh := [(0, 7, 8, 16), (0, 7, 13, 19)]) (rt := .int) (by decide +kernel) rfl (Nat.le_of_ble_eq_true rfl) ?_
  intro p e s m args below meth c sl9 A Q Z hX htb hnm Mz9 hl9 hret
  have Z : zC p s m args c cL_cut 5 RL wsL_cut D T A := Z
  have hx := Z.1.1
  have hb := Z.1.2.1
  have hts := Z.1.2.2.2.2
  have hl9 : lv_has sl9 5 [(0, .ref o), (1, .int (x0)), (2, .int (x1)), (3, .int (x2))] := hl9
  obtain ⟨is9, hp1, hp2, hp3⟩ := mid_put4 [] ((o, .inr (6, vs)) :: wt)
  refine lv_aload_n hx hb dL_cut_0 rfl (lv_at hl9 0 rfl) ?_
  refine lv_iload_n hx hb dL_cut_1 rfl (lv_at hl9 1 rfl) ?_
  refine lv_iload_n hx hb dL_cut_2 rfl (lv_at hl9 2 rfl) ?_
  refine lv_iload_n hx hb dL_cut_3 rfl (lv_at hl9 3 rfl) ?_
  refine z_callVx (As := [.int (x0), .int (x1), .int (x2)]) (rest := []) (wc := ((o, .inr (6, vs)) :: wt)) (zW_k ea mi sa) hX.1 Z Mz9 hM (cwV 3 hts gL_cut_X5_cut rfl hrm.1 hrm.2 (by decide +kernel) ⟨Nat.le_refl _, Nat.le_refl _⟩) is9 hp1 hp2 (va_recv Z.2.1 Mz9.1 (ci := 6) (q0 := 0) rfl rfl) rfl hl9.1 (Nat.le_of_ble_eq_true rfl) dL_cut_4 ⟨Nat.le_of_ble_eq_true rfl, Nat.le_of_ble_eq_true rfl⟩ rfl (fun Hp9 lc9 q9 ce Mz9 hcell hv hcl => ?_)
  refine vx_catch (name := "java/lang/IllegalArgumentException") Z.1.2.2.2.1 [(⟨0, 7, 8, 16⟩ : ExceptionTableEntry)] (⟨0, 7, 13, 19⟩ : ExceptionTableEntry) [] htb (List.forall_mem_cons.mpr ⟨Or.inr ⟨by decide, "java/lang/IndexOutOfBoundsException", hts (.classLink RL 16 "java/lang/IndexOutOfBoundsException") (by decide +kernel), hX.2.1⟩, fun _ hz => absurd hz List.not_mem_nil⟩) (by decide) (by decide) (hts (.classLink RL 19 "java/lang/IllegalArgumentException") (by decide +kernel)) ((zWw hX.1 (w := .castable "java/lang/IllegalArgumentException" "java/lang/IllegalArgumentException") (by decide +kernel)).use rfl) hcell hv hcl ?_
  refine lv_astore (lv' := [(4, .ref q9), (0, .ref o), (1, .int (x0)), (2, .int (x1)), (3, .int (x2))]) hx hb dL_cut_13 hl9 (by decide) rfl (fun sl9 hl9 => ?_)
  refine lv_ldc (v := (-1000002)) hx hb Z.1.2.2.2.1 (hts (.constant RL 21 (-1000002)) (by decide +kernel)) dL_cut_15 ?_
  exact hret _ _ _ _ _ sl9 _ _ () Mz9 rfl rfl rfl (Nat.le_of_ble_eq_true rfl) (Nat.le_of_ble_eq_true rfl) dL_cut_17
set_option maxHeartbeats 4000000 in
set_option maxRecDepth 100000 in
theorem lk_die (l : Launch) (D : va_G) (T : Nat → ClassId) (ea mi : Nat) (sa : Nat → Nat) (o : Nat)  {vs : List Value} {wt : va_W} {rm : Room} {S : Type} {w' : S → va_W} {mc ms : Nat} {rv : Int32} (hM : ZIH l yX5_die wsX5_die rm (zW ea mi sa) D T (S := S) ((o, .inr (6, vs)) :: wt) w' [.ref o] rv mc ms) (hrm : rm.cells = mc ∧ rm.slots = ms) (hf : ∀ (u : S) (j : Nat), j < ((o, .inr (6, vs)) :: wt).length → ((w' u).map Prod.fst)[j]? = (((o, .inr (6, vs)) :: wt).map Prod.fst)[j]?) (hlen : ∀ u : S, ((o, .inr (6, vs)) :: wt).length ≤ (w' u).length) : ZIH l yL_die wsL_die (lkR rm 2 mc ms) (zX ea mi sa) D T (S := S) ((o, .inr (6, vs)) :: wt) w' [.ref o] rv mc ms := by
  refine z_inIHW (cc := cL_die) (maxL := 2) (hh := [(0, 4, 5, 26)]) (rt := .int) (by decide +kernel) rfl (Nat.le_of_ble_eq_true rfl) ?_
  intro p e s m args below meth c sl9 A Q Z hX htb hnm Mz9 hl9 hret
  have Z : zC p s m args c cL_die 2 RL wsL_die D T A := Z
  have hx := Z.1.1
  have hb := Z.1.2.1
  have hts := Z.1.2.2.2.2
  have hl9 : lv_has sl9 2 [(0, .ref o)] := hl9
  obtain ⟨is9, hp1, hp2, hp3⟩ := mid_put4 [] ((o, .inr (6, vs)) :: wt)
  refine lv_aload_n hx hb dL_die_0 rfl (lv_at hl9 0 rfl) ?_
  refine z_callViH (As := []) (rest := []) (wc := ((o, .inr (6, vs)) :: wt)) (zW_k ea mi sa) hX.1 Z Mz9 hM (cwV 0 hts gL_die_X5_die rfl hrm.1 hrm.2 (by decide +kernel) ⟨Nat.le_refl _, Nat.le_refl _⟩) is9 hp1 hp2 hf hlen (va_recv Z.2.1 Mz9.1 (ci := 6) (q0 := 0) rfl rfl) rfl hl9.1 (Nat.le_of_ble_eq_true rfl) dL_die_1 ⟨Nat.le_of_eq (Nat.zero_add _), Nat.le_of_eq (Nat.zero_add _)⟩ rfl (fun u Hp9 lc9 Mz9 => ?_)
  have Mz9 : zM D A s.heap (w' u) _ _ := zM_w (hp3 _ (hlen u)) Mz9
  exact hret _ _ _ _ _ sl9 _ _ u Mz9 rfl (rfl) rfl (Nat.le_of_eq (Nat.zero_add _)) (Nat.le_of_eq (Nat.zero_add _)) dL_die_4
set_option maxHeartbeats 4000000 in
set_option maxRecDepth 100000 in
theorem lk_die_1 (l : Launch) (D : va_G) (T : Nat → ClassId) (ea mi : Nat) (sa : Nat → Nat) (o : Nat)  {vs : List Value} {wt : va_W} {rm : Room} (hM : ZB l yX5_die wsX5_die rm (zW ea mi sa) D T ((o, .inr (6, vs)) :: wt) [.ref o] "java/lang/IllegalStateException") (hrm : rm.cells = 1 ∧ rm.slots = 6) : ZIH l yL_die wsL_die (lkR rm 2 1 6) (zX ea mi sa) D T (S := Unit) ((o, .inr (6, vs)) :: wt) (fun _ => ((o, .inr (6, vs)) :: wt)) [.ref o] (-1000003) 1 6 := by
  refine z_inIHW (cc := cL_die) (maxL := 2) (hh := [(0, 4, 5, 26)]) (rt := .int) (by decide +kernel) rfl (Nat.le_of_ble_eq_true rfl) ?_
  intro p e s m args below meth c sl9 A Q Z hX htb hnm Mz9 hl9 hret
  have Z : zC p s m args c cL_die 2 RL wsL_die D T A := Z
  have hx := Z.1.1
  have hb := Z.1.2.1
  have hts := Z.1.2.2.2.2
  have hl9 : lv_has sl9 2 [(0, .ref o)] := hl9
  obtain ⟨is9, hp1, hp2, hp3⟩ := mid_put4 [] ((o, .inr (6, vs)) :: wt)
  refine lv_aload_n hx hb dL_die_0 rfl (lv_at hl9 0 rfl) ?_
  refine z_callVx (As := []) (rest := []) (wc := ((o, .inr (6, vs)) :: wt)) (zW_k ea mi sa) hX.1 Z Mz9 hM (cwV 0 hts gL_die_X5_die rfl hrm.1 hrm.2 (by decide +kernel) ⟨Nat.le_refl _, Nat.le_refl _⟩) is9 hp1 hp2 (va_recv Z.2.1 Mz9.1 (ci := 6) (q0 := 0) rfl rfl) rfl hl9.1 (Nat.le_of_ble_eq_true rfl) dL_die_1 ⟨Nat.le_of_ble_eq_true rfl, Nat.le_of_ble_eq_true rfl⟩ rfl (fun Hp9 lc9 q9 ce Mz9 hcell hv hcl => ?_)
  refine vx_catch (name := "java/lang/IllegalStateException") Z.1.2.2.2.1 [] (⟨0, 4, 5, 26⟩ : ExceptionTableEntry) [] htb (fun z hz => absurd hz List.not_mem_nil) (by decide) (by decide) (hts (.classLink RL 26 "java/lang/IllegalStateException") (by decide +kernel)) ((zWw hX.1 (w := .castable "java/lang/IllegalStateException" "java/lang/IllegalStateException") (by decide +kernel)).use rfl) hcell hv hcl ?_
  refine lv_astore_n (lv' := [(1, .ref q9), (0, .ref o)]) hx hb dL_die_5 rfl hl9 (by decide) rfl (fun sl9 hl9 => ?_)
  refine lv_ldc (v := (-1000003)) hx hb Z.1.2.2.2.1 (hts (.constant RL 28 (-1000003)) (by decide +kernel)) dL_die_6 ?_
  exact hret _ _ _ _ _ sl9 _ _ () Mz9 rfl rfl rfl (Nat.le_of_ble_eq_true rfl) (Nat.le_of_ble_eq_true rfl) dL_die_8
set_option maxHeartbeats 4000000 in
set_option maxRecDepth 100000 in
theorem lk_shape (l : Launch) (D : va_G) (T : Nat → ClassId) (ea mi : Nat) (sa : Nat → Nat) (o : Nat) (x0 x1 x2 : Int32) {vs : List Value} {wt : va_W} {rm : Room} {S : Type} {w' : S → va_W} {mc ms : Nat} {rv : Int32} (hM : ZIH l yX5_shape wsX5_shape rm (zW ea mi sa) D T (S := S) ((o, .inr (6, vs)) :: wt) w' [.ref o, .int x0, .int x1, .int x2] rv mc ms) (hrm : rm.cells = mc ∧ rm.slots = ms) (hf : ∀ (u : S) (j : Nat), j < ((o, .inr (6, vs)) :: wt).length → ((w' u).map Prod.fst)[j]? = (((o, .inr (6, vs)) :: wt).map Prod.fst)[j]?) (hlen : ∀ u : S, ((o, .inr (6, vs)) :: wt).length ≤ (w' u).length) : ZIH l yL_shape wsL_shape (lkR rm 6 mc ms) (zX ea mi sa) D T (S := S) ((o, .inr (6, vs)) :: wt) w' [.ref o, .int x0, .int x1, .int x2] rv mc ms := by
  refine z_inIHW (cc := cL_shape) (maxL := 5) (hh := [(0, 7, 8, 16), (0, 7, 13, 19)]) (rt := .int) (by decide +kernel) rfl (Nat.le_of_ble_eq_true rfl) ?_
  intro p e s m args below meth c sl9 A Q Z hX htb hnm Mz9 hl9 hret
  have Z : zC p s m args c cL_shape 5 RL wsL_shape D T A := Z
  have hx := Z.1.1
  have hb := Z.1.2.1
  have hts := Z.1.2.2.2.2
  have hl9 : lv_has sl9 5 [(0, .ref o), (1, .int (x0)), (2, .int (x1)), (3, .int (x2))] := hl9
  obtain ⟨is9, hp1, hp2, hp3⟩ := mid_put4 [] ((o, .inr (6, vs)) :: wt)
  refine lv_aload_n hx hb dL_shape_0 rfl (lv_at hl9 0 rfl) ?_
  refine lv_iload_n hx hb dL_shape_1 rfl (lv_at hl9 1 rfl) ?_
  refine lv_iload_n hx hb dL_shape_2 rfl (lv_at hl9 2 rfl) ?_
  refine lv_iload_n hx hb dL_shape_3 rfl (lv_at hl9 3 rfl) ?_
  refine z_callViH (As := [.int (x0), .int (x1), .int (x2)]) (rest := []) (wc := ((o, .inr (6, vs)) :: wt)) (zW_k ea mi sa) hX.1 Z Mz9 hM (cwV 3 hts gL_shape_X5_shape rfl hrm.1 hrm.2 (by decide +kernel) ⟨Nat.le_refl _, Nat.le_refl _⟩) is9 hp1 hp2 hf hlen (va_recv Z.2.1 Mz9.1 (ci := 6) (q0 := 0) rfl rfl) rfl hl9.1 (Nat.le_of_ble_eq_true rfl) dL_shape_4 ⟨Nat.le_of_eq (Nat.zero_add _), Nat.le_of_eq (Nat.zero_add _)⟩ rfl (fun u Hp9 lc9 Mz9 => ?_)
  have Mz9 : zM D A s.heap (w' u) _ _ := zM_w (hp3 _ (hlen u)) Mz9
  exact hret _ _ _ _ _ sl9 _ _ u Mz9 rfl (rfl) rfl (Nat.le_of_eq (Nat.zero_add _)) (Nat.le_of_eq (Nat.zero_add _)) dL_shape_7
set_option maxHeartbeats 4000000 in
set_option maxRecDepth 100000 in
theorem lk_shape_1 (l : Launch) (D : va_G) (T : Nat → ClassId) (ea mi : Nat) (sa : Nat → Nat) (o : Nat) (x0 x1 x2 : Int32) {vs : List Value} {wt : va_W} {rm : Room} (hM : ZB l yX5_shape wsX5_shape rm (zW ea mi sa) D T ((o, .inr (6, vs)) :: wt) [.ref o, .int x0, .int x1, .int x2] "java/lang/IndexOutOfBoundsException") (hrm : rm.cells = 1 ∧ rm.slots = 6) : ZIH l yL_shape wsL_shape (lkR rm 6 1 6) (zX ea mi sa) D T (S := Unit) ((o, .inr (6, vs)) :: wt) (fun _ => ((o, .inr (6, vs)) :: wt)) [.ref o, .int x0, .int x1, .int x2] (-1000001) 1 6 := by
  refine z_inIHW (cc := cL_shape) (maxL := 5) (hh := [(0, 7, 8, 16), (0, 7, 13, 19)]) (rt := .int) (by decide +kernel) rfl (Nat.le_of_ble_eq_true rfl) ?_
  intro p e s m args below meth c sl9 A Q Z hX htb hnm Mz9 hl9 hret
  have Z : zC p s m args c cL_shape 5 RL wsL_shape D T A := Z
  have hx := Z.1.1
  have hb := Z.1.2.1
  have hts := Z.1.2.2.2.2
  have hl9 : lv_has sl9 5 [(0, .ref o), (1, .int (x0)), (2, .int (x1)), (3, .int (x2))] := hl9
  obtain ⟨is9, hp1, hp2, hp3⟩ := mid_put4 [] ((o, .inr (6, vs)) :: wt)
  refine lv_aload_n hx hb dL_shape_0 rfl (lv_at hl9 0 rfl) ?_
  refine lv_iload_n hx hb dL_shape_1 rfl (lv_at hl9 1 rfl) ?_
  refine lv_iload_n hx hb dL_shape_2 rfl (lv_at hl9 2 rfl) ?_
  refine lv_iload_n hx hb dL_shape_3 rfl (lv_at hl9 3 rfl) ?_
  refine z_callVx (As := [.int (x0), .int (x1), .int (x2)]) (rest := []) (wc := ((o, .inr (6, vs)) :: wt)) (zW_k ea mi sa) hX.1 Z Mz9 hM (cwV 3 hts gL_shape_X5_shape rfl hrm.1 hrm.2 (by decide +kernel) ⟨Nat.le_refl _, Nat.le_refl _⟩) is9 hp1 hp2 (va_recv Z.2.1 Mz9.1 (ci := 6) (q0 := 0) rfl rfl) rfl hl9.1 (Nat.le_of_ble_eq_true rfl) dL_shape_4 ⟨Nat.le_of_ble_eq_true rfl, Nat.le_of_ble_eq_true rfl⟩ rfl (fun Hp9 lc9 q9 ce Mz9 hcell hv hcl => ?_)
  refine vx_catch (name := "java/lang/IndexOutOfBoundsException") Z.1.2.2.2.1 [] (⟨0, 7, 8, 16⟩ : ExceptionTableEntry) [(⟨0, 7, 13, 19⟩ : ExceptionTableEntry)] htb (fun z hz => absurd hz List.not_mem_nil) (by decide) (by decide) (hts (.classLink RL 16 "java/lang/IndexOutOfBoundsException") (by decide +kernel)) ((zWw hX.1 (w := .castable "java/lang/IndexOutOfBoundsException" "java/lang/IndexOutOfBoundsException") (by decide +kernel)).use rfl) hcell hv hcl ?_
  refine lv_astore (lv' := [(4, .ref q9), (0, .ref o), (1, .int (x0)), (2, .int (x1)), (3, .int (x2))]) hx hb dL_shape_8 hl9 (by decide) rfl (fun sl9 hl9 => ?_)
  refine lv_ldc (v := (-1000001)) hx hb Z.1.2.2.2.1 (hts (.constant RL 18 (-1000001)) (by decide +kernel)) dL_shape_10 ?_
  exact hret _ _ _ _ _ sl9 _ _ () Mz9 rfl rfl rfl (Nat.le_of_ble_eq_true rfl) (Nat.le_of_ble_eq_true rfl) dL_shape_12
set_option maxHeartbeats 4000000 in
set_option maxRecDepth 100000 in
theorem lk_shape_2 (l : Launch) (D : va_G) (T : Nat → ClassId) (ea mi : Nat) (sa : Nat → Nat) (o : Nat) (x0 x1 x2 : Int32) {vs : List Value} {wt : va_W} {rm : Room} (hM : ZB l yX5_shape wsX5_shape rm (zW ea mi sa) D T ((o, .inr (6, vs)) :: wt) [.ref o, .int x0, .int x1, .int x2] "java/lang/IllegalArgumentException") (hrm : rm.cells = 1 ∧ rm.slots = 6) : ZIH l yL_shape wsL_shape (lkR rm 6 1 6) (zX ea mi sa) D T (S := Unit) ((o, .inr (6, vs)) :: wt) (fun _ => ((o, .inr (6, vs)) :: wt)) [.ref o, .int x0, .int x1, .int x2] (-1000002) 1 6 := by
  refine z_inIHW (cc := cL_shape) (maxL := 5) (hh := [(0, 7, 8, 16), (0, 7, 13, 19)]) (rt := .int) (by decide +kernel) rfl (Nat.le_of_ble_eq_true rfl) ?_
  intro p e s m args below meth c sl9 A Q Z hX htb hnm Mz9 hl9 hret
  have Z : zC p s m args c cL_shape 5 RL wsL_shape D T A := Z
  have hx := Z.1.1
  have hb := Z.1.2.1
  have hts := Z.1.2.2.2.2
  have hl9 : lv_has sl9 5 [(0, .ref o), (1, .int (x0)), (2, .int (x1)), (3, .int (x2))] := hl9
  obtain ⟨is9, hp1, hp2, hp3⟩ := mid_put4 [] ((o, .inr (6, vs)) :: wt)
  refine lv_aload_n hx hb dL_shape_0 rfl (lv_at hl9 0 rfl) ?_
  refine lv_iload_n hx hb dL_shape_1 rfl (lv_at hl9 1 rfl) ?_
  refine lv_iload_n hx hb dL_shape_2 rfl (lv_at hl9 2 rfl) ?_
  refine lv_iload_n hx hb dL_shape_3 rfl (lv_at hl9 3 rfl) ?_
  refine z_callVx (As := [.int (x0), .int (x1), .int (x2)]) (rest := []) (wc := ((o, .inr (6, vs)) :: wt)) (zW_k ea mi sa) hX.1 Z Mz9 hM (cwV 3 hts gL_shape_X5_shape rfl hrm.1 hrm.2 (by decide +kernel) ⟨Nat.le_refl _, Nat.le_refl _⟩) is9 hp1 hp2 (va_recv Z.2.1 Mz9.1 (ci := 6) (q0 := 0) rfl rfl) rfl hl9.1 (Nat.le_of_ble_eq_true rfl) dL_shape_4 ⟨Nat.le_of_ble_eq_true rfl, Nat.le_of_ble_eq_true rfl⟩ rfl (fun Hp9 lc9 q9 ce Mz9 hcell hv hcl => ?_)
  refine vx_catch (name := "java/lang/IllegalArgumentException") Z.1.2.2.2.1 [(⟨0, 7, 8, 16⟩ : ExceptionTableEntry)] (⟨0, 7, 13, 19⟩ : ExceptionTableEntry) [] htb (List.forall_mem_cons.mpr ⟨Or.inr ⟨by decide, "java/lang/IndexOutOfBoundsException", hts (.classLink RL 16 "java/lang/IndexOutOfBoundsException") (by decide +kernel), hX.2.1⟩, fun _ hz => absurd hz List.not_mem_nil⟩) (by decide) (by decide) (hts (.classLink RL 19 "java/lang/IllegalArgumentException") (by decide +kernel)) ((zWw hX.1 (w := .castable "java/lang/IllegalArgumentException" "java/lang/IllegalArgumentException") (by decide +kernel)).use rfl) hcell hv hcl ?_
  refine lv_astore (lv' := [(4, .ref q9), (0, .ref o), (1, .int (x0)), (2, .int (x1)), (3, .int (x2))]) hx hb dL_shape_13 hl9 (by decide) rfl (fun sl9 hl9 => ?_)
  refine lv_ldc (v := (-1000002)) hx hb Z.1.2.2.2.1 (hts (.constant RL 21 (-1000002)) (by decide +kernel)) dL_shape_15 ?_
  exact hret _ _ _ _ _ sl9 _ _ () Mz9 rfl rfl rfl (Nat.le_of_ble_eq_true rfl) (Nat.le_of_ble_eq_true rfl) dL_shape_17
