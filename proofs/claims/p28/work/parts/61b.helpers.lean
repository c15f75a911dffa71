/-! ===== the law's helpers ===== -/
set_option maxHeartbeats 4000000 in
set_option maxRecDepth 100000 in
theorem lk_sink (l : Launch) (D : va_G) (T : Nat → ClassId) (ea mi : Nat) (sa : Nat → Nat) (o : Nat) (x0 : Int32) {vs : List Value} {wt : va_W} {rm : Room} {S : Type} {w' : S → va_W} {mc ms : Nat} {rv : Int32} (hM : ZIH l yX5_sink wsX5_sink rm (zW ea mi sa) D T (S := S) ((o, .inr (6, vs)) :: wt) w' [.ref o, .int x0] rv mc ms) (hrm : rm.cells = mc ∧ rm.slots = ms) (hf : ∀ (u : S) (j : Nat), j < ((o, .inr (6, vs)) :: wt).length → ((w' u).map Prod.fst)[j]? = (((o, .inr (6, vs)) :: wt).map Prod.fst)[j]?) (hlen : ∀ u : S, ((o, .inr (6, vs)) :: wt).length ≤ (w' u).length) : ZIH l yL_sink wsL_sink (lkR rm 4 mc ms) (zX ea mi sa) D T (S := S) ((o, .inr (6, vs)) :: wt) w' [.ref o, .int x0] rv mc ms := by
  refine z_inIHW (cc := cL_sink) (maxL := 3) (hh := [(0, 5, 6, 16)]) (rt := .int) (by decide +kernel) rfl (Nat.le_of_ble_eq_true rfl) ?_
  intro p e s m args below meth c sl9 A Q Z hX htb hnm Mz9 hl9 hret
  have Z : zC p s m args c cL_sink 3 RL wsL_sink D T A := Z
  have hx := Z.1.1
  have hb := Z.1.2.1
  have hts := Z.1.2.2.2.2
  have hl9 : lv_has sl9 3 [(0, .ref o), (1, .int (x0))] := hl9
  obtain ⟨is9, hp1, hp2, hp3⟩ := mid_put4 [] ((o, .inr (6, vs)) :: wt)
  refine lv_aload_n hx hb dL_sink_0 rfl (lv_at hl9 0 rfl) ?_
  refine lv_iload_n hx hb dL_sink_1 rfl (lv_at hl9 1 rfl) ?_
  refine z_callViH (As := [.int (x0)]) (rest := []) (wc := ((o, .inr (6, vs)) :: wt)) (zW_k ea mi sa) hX.1 Z Mz9 hM (cwV 1 hts gL_sink_X5_sink rfl hrm.1 hrm.2 (by decide +kernel) ⟨Nat.le_refl _, Nat.le_refl _⟩) is9 hp1 hp2 hf hlen (va_recv Z.2.1 Mz9.1 (ci := 6) (q0 := 0) rfl rfl) rfl hl9.1 (Nat.le_of_ble_eq_true rfl) dL_sink_2 ⟨Nat.le_of_eq (Nat.zero_add _), Nat.le_of_eq (Nat.zero_add _)⟩ rfl (fun u Hp9 lc9 Mz9 => ?_)
  have Mz9 : zM D A s.heap (w' u) _ _ := zM_w (hp3 _ (hlen u)) Mz9
  exact hret _ _ _ _ _ sl9 _ _ u Mz9 rfl (rfl) rfl (Nat.le_of_eq (Nat.zero_add _)) (Nat.le_of_eq (Nat.zero_add _)) dL_sink_5
set_option maxHeartbeats 4000000 in
set_option maxRecDepth 100000 in
theorem lk_sink_1 (l : Launch) (D : va_G) (T : Nat → ClassId) (ea mi : Nat) (sa : Nat → Nat) (o : Nat) (x0 : Int32) {vs : List Value} {wt : va_W} {rm : Room} (hM : ZB l yX5_sink wsX5_sink rm (zW ea mi sa) D T ((o, .inr (6, vs)) :: wt) [.ref o, .int x0] "java/lang/IndexOutOfBoundsException") (hrm : rm.cells = 1 ∧ rm.slots = 6) : ZIH l yL_sink wsL_sink (lkR rm 4 1 6) (zX ea mi sa) D T (S := Unit) ((o, .inr (6, vs)) :: wt) (fun _ => ((o, .inr (6, vs)) :: wt)) [.ref o, .int x0] (-1000001) 1 6 := by
  refine z_inIHW (cc := cL_sink) (maxL := 3) (hh := [(0, 5, 6, 16)]) (rt := .int) (by decide +kernel) rfl (Nat.le_of_ble_eq_true rfl) ?_
  intro p e s m args below meth c sl9 A Q Z hX htb hnm Mz9 hl9 hret
  have Z : zC p s m args c cL_sink 3 RL wsL_sink D T A := Z
  have hx := Z.1.1
  have hb := Z.1.2.1
  have hts := Z.1.2.2.2.2
  have hl9 : lv_has sl9 3 [(0, .ref o), (1, .int (x0))] := hl9
  obtain ⟨is9, hp1, hp2, hp3⟩ := mid_put4 [] ((o, .inr (6, vs)) :: wt)
  refine lv_aload_n hx hb dL_sink_0 rfl (lv_at hl9 0 rfl) ?_
  refine lv_iload_n hx hb dL_sink_1 rfl (lv_at hl9 1 rfl) ?_
  refine z_callVx (As := [.int (x0)]) (rest := []) (wc := ((o, .inr (6, vs)) :: wt)) (zW_k ea mi sa) hX.1 Z Mz9 hM (cwV 1 hts gL_sink_X5_sink rfl hrm.1 hrm.2 (by decide +kernel) ⟨Nat.le_refl _, Nat.le_refl _⟩) is9 hp1 hp2 (va_recv Z.2.1 Mz9.1 (ci := 6) (q0 := 0) rfl rfl) rfl hl9.1 (Nat.le_of_ble_eq_true rfl) dL_sink_2 ⟨Nat.le_of_ble_eq_true rfl, Nat.le_of_ble_eq_true rfl⟩ rfl (fun Hp9 lc9 q9 ce Mz9 hcell hv hcl => ?_)
  refine vx_catch (name := "java/lang/IndexOutOfBoundsException") Z.1.2.2.2.1 [] (⟨0, 5, 6, 16⟩ : ExceptionTableEntry) [] htb (fun z hz => absurd hz List.not_mem_nil) (by decide) (by decide) (hts (.classLink RL 16 "java/lang/IndexOutOfBoundsException") (by decide +kernel)) ((zWw hX.1 (w := .castable "java/lang/IndexOutOfBoundsException" "java/lang/IndexOutOfBoundsException") (by decide +kernel)).use rfl) hcell hv hcl ?_
  refine lv_astore_n (lv' := [(2, .ref q9), (0, .ref o), (1, .int (x0))]) hx hb dL_sink_6 rfl hl9 (by decide) rfl (fun sl9 hl9 => ?_)
  refine lv_ldc (v := (-1000001)) hx hb Z.1.2.2.2.1 (hts (.constant RL 18 (-1000001)) (by decide +kernel)) dL_sink_7 ?_
  exact hret _ _ _ _ _ sl9 _ _ () Mz9 rfl rfl rfl (Nat.le_of_ble_eq_true rfl) (Nat.le_of_ble_eq_true rfl) dL_sink_9
set_option maxHeartbeats 4000000 in
set_option maxRecDepth 100000 in
theorem lk_press (l : Launch) (D : va_G) (T : Nat → ClassId) (ea mi : Nat) (sa : Nat → Nat) (o : Nat) (x0 x1 x2 : Int32) {vs : List Value} {wt : va_W} {rm : Room} {S : Type} {w' : S → va_W} {mc ms : Nat} {rv : Int32} (hM : ZIH l yX5_press wsX5_press rm (zW ea mi sa) D T (S := S) ((o, .inr (6, vs)) :: wt) w' [.ref o, .int x0, .int x1, .int x2] rv mc ms) (hrm : rm.cells = mc ∧ rm.slots = ms) (hf : ∀ (u : S) (j : Nat), j < ((o, .inr (6, vs)) :: wt).length → ((w' u).map Prod.fst)[j]? = (((o, .inr (6, vs)) :: wt).map Prod.fst)[j]?) (hlen : ∀ u : S, ((o, .inr (6, vs)) :: wt).length ≤ (w' u).length) : ZIH l yL_press wsL_press (lkR rm 6 mc ms) (zX ea mi sa) D T (S := S) ((o, .inr (6, vs)) :: wt) w' [.ref o, .int x0, .int x1, .int x2] rv mc ms := by
  refine z_inIHW (cc := cL_press) (maxL := 5) (hh := [(0, 7, 8, 16), (0, 7, 13, 19), (0, 7, 18, 26)]) (rt := .int) (by decide +kernel) rfl (Nat.le_of_ble_eq_true rfl) ?_
  intro p e s m args below meth c sl9 A Q Z hX htb hnm Mz9 hl9 hret
  have Z : zC p s m args c cL_press 5 RL wsL_press D T A := Z
  have hx := Z.1.1
  have hb := Z.1.2.1
  have hts := Z.1.2.2.2.2
  have hl9 : lv_has sl9 5 [(0, .ref o), (1, .int (x0)), (2, .int (x1)), (3, .int (x2))] := hl9
  obtain ⟨is9, hp1, hp2, hp3⟩ := mid_put4 [] ((o, .inr (6, vs)) :: wt)
  refine lv_aload_n hx hb dL_press_0 rfl (lv_at hl9 0 rfl) ?_
  refine lv_iload_n hx hb dL_press_1 rfl (lv_at hl9 1 rfl) ?_
  refine lv_iload_n hx hb dL_press_2 rfl (lv_at hl9 2 rfl) ?_
  refine lv_iload_n hx hb dL_press_3 rfl (lv_at hl9 3 rfl) ?_
  refine z_callViH (As := [.int (x0), .int (x1), .int (x2)]) (rest := []) (wc := ((o, .inr (6, vs)) :: wt)) (zW_k ea mi sa) hX.1 Z Mz9 hM (cwV 3 hts gL_press_X5_press rfl hrm.1 hrm.2 (by decide +kernel) ⟨Nat.le_refl _, Nat.le_refl _⟩) is9 hp1 hp2 hf hlen (va_recv Z.2.1 Mz9.1 (ci := 6) (q0 := 0) rfl rfl) rfl hl9.1 (Nat.le_of_ble_eq_true rfl) dL_press_4 ⟨Nat.le_of_eq (Nat.zero_add _), Nat.le_of_eq (Nat.zero_add _)⟩ rfl (fun u Hp9 lc9 Mz9 => ?_)
  have Mz9 : zM D A s.heap (w' u) _ _ := zM_w (hp3 _ (hlen u)) Mz9
  exact hret _ _ _ _ _ sl9 _ _ u Mz9 rfl (rfl) rfl (Nat.le_of_eq (Nat.zero_add _)) (Nat.le_of_eq (Nat.zero_add _)) dL_press_7
set_option maxHeartbeats 4000000 in
set_option maxRecDepth 100000 in
theorem lk_press_1 (l : Launch) (D : va_G) (T : Nat → ClassId) (ea mi : Nat) (sa : Nat → Nat) (o : Nat) (x0 x1 x2 : Int32) {vs : List Value} {wt : va_W} {rm : Room} (hM : ZB l yX5_press wsX5_press rm (zW ea mi sa) D T ((o, .inr (6, vs)) :: wt) [.ref o, .int x0, .int x1, .int x2] "java/lang/IndexOutOfBoundsException") (hrm : rm.cells = 1 ∧ rm.slots = 6) : ZIH l yL_press wsL_press (lkR rm 6 1 6) (zX ea mi sa) D T (S := Unit) ((o, .inr (6, vs)) :: wt) (fun _ => ((o, .inr (6, vs)) :: wt)) [.ref o, .int x0, .int x1, .int x2] (-1000001) 1 6 := by
  refine z_inIHW (cc := cL_press) (maxL := 5) (hh := [(0, 7, 8, 16), (0, 7, 13, 19), (0, 7, 18, 26)]) (rt := .int) (by decide +kernel) rfl (Nat.le_of_ble_eq_true rfl) ?_
  intro p e s m args below meth c sl9 A Q Z hX htb hnm Mz9 hl9 hret
  have Z : zC p s m args c cL_press 5 RL wsL_press D T A := Z
  have hx := Z.1.1
  have hb := Z.1.2.1
  have hts := Z.1.2.2.2.2
  have hl9 : lv_has sl9 5 [(0, .ref o), (1, .int (x0)), (2, .int (x1)), (3, .int (x2))] := hl9
  obtain ⟨is9, hp1, hp2, hp3⟩ := mid_put4 [] ((o, .inr (6, vs)) :: wt)
  refine lv_aload_n hx hb dL_press_0 rfl (lv_at hl9 0 rfl) ?_
  refine lv_iload_n hx hb dL_press_1 rfl (lv_at hl9 1 rfl) ?_
  refine lv_iload_n hx hb dL_press_2 rfl (lv_at hl9 2 rfl) ?_
  refine lv_iload_n hx hb dL_press_3 rfl (lv_at hl9 3 rfl) ?_
  refine z_callVx (As := [.int (x0), .int (x1), .int (x2)]) (rest := []) (wc := ((o, .inr (6, vs)) :: wt)) (zW_k ea mi sa) hX.1 Z Mz9 hM (cwV 3 hts gL_press_X5_press rfl hrm.1 hrm.2 (by decide +kernel) ⟨Nat.le_refl _, Nat.le_refl _⟩) is9 hp1 hp2 (va_recv Z.2.1 Mz9.1 (ci := 6) (q0 := 0) rfl rfl) rfl hl9.1 (Nat.le_of_ble_eq_true rfl) dL_press_4 ⟨Nat.le_of_ble_eq_true rfl, Nat.le_of_ble_eq_true rfl⟩ rfl (fun Hp9 lc9 q9 ce Mz9 hcell hv hcl => ?_)
  refine vx_catch (name := "java/lang/IndexOutOfBoundsException") Z.1.2.2.2.1 [] (⟨0, 7, 8, 16⟩ : ExceptionTableEntry) [(⟨0, 7, 13, 19⟩ : ExceptionTableEntry), (⟨0, 7, 18, 26⟩ : ExceptionTableEntry)] htb (fun z hz => absurd hz List.not_mem_nil) (by decide) (by decide) (hts (.classLink RL 16 "java/lang/IndexOutOfBoundsException") (by decide +kernel)) ((zWw hX.1 (w := .castable "java/lang/IndexOutOfBoundsException" "java/lang/IndexOutOfBoundsException") (by decide +kernel)).use rfl) hcell hv hcl ?_
  refine lv_astore (lv' := [(4, .ref q9), (0, .ref o), (1, .int (x0)), (2, .int (x1)), (3, .int (x2))]) hx hb dL_press_8 hl9 (by decide) rfl (fun sl9 hl9 => ?_)
  refine lv_ldc (v := (-1000001)) hx hb Z.1.2.2.2.1 (hts (.constant RL 18 (-1000001)) (by decide +kernel)) dL_press_10 ?_
  exact hret _ _ _ _ _ sl9 _ _ () Mz9 rfl rfl rfl (Nat.le_of_ble_eq_true rfl) (Nat.le_of_ble_eq_true rfl) dL_press_12
set_option maxHeartbeats 4000000 in
set_option maxRecDepth 100000 in
theorem lk_press_2 (l : Launch) (D : va_G) (T : Nat → ClassId) (ea mi : Nat) (sa : Nat → Nat) (o : Nat) (x0 x1 x2 : Int32) {vs : List Value} {wt : va_W} {rm : Room} (hM : ZB l yX5_press wsX5_press rm (zW ea mi sa) D T ((o, .inr (6, vs)) :: wt) [.ref o, .int x0, .int x1, .int x2] "java/lang/IllegalArgumentException") (hrm : rm.cells = 1 ∧ rm.slots = 6) : ZIH l yL_press wsL_press (lkR rm 6 1 6) (zX ea mi sa) D T (S := Unit) ((o, .inr (6, vs)) :: wt) (fun _ => ((o, .inr (6, vs)) :: wt)) [.ref o, .int x0, .int x1, .int x2] (-1000002) 1 6 := by
  refine z_inIHW (cc := cL_press) (maxL := 5) (hh := [(0, 7, 8, 16), (0, 7, 13, 19), (0, 7, 18, 26)]) (rt := .int) (by decide +kernel) rfl (Nat.le_of_ble_eq_true rfl) ?_
  intro p e s m args below meth c sl9 A Q Z hX htb hnm Mz9 hl9 hret
  have Z : zC p s m args c cL_press 5 RL wsL_press D T A := Z
  have hx := Z.1.1
  have hb := Z.1.2.1
  have hts := Z.1.2.2.2.2
  have hl9 : lv_has sl9 5 [(0, .ref o), (1, .int (x0)), (2, .int (x1)), (3, .int (x2))] := hl9
  obtain ⟨is9, hp1, hp2, hp3⟩ := mid_put4 [] ((o, .inr (6, vs)) :: wt)
  refine lv_aload_n hx hb dL_press_0 rfl (lv_at hl9 0 rfl) ?_
  refine lv_iload_n hx hb dL_press_1 rfl (lv_at hl9 1 rfl) ?_
  refine lv_iload_n hx hb dL_press_2 rfl (lv_at hl9 2 rfl) ?_
  refine lv_iload_n hx hb dL_press_3 rfl (lv_at hl9 3 rfl) ?_
  refine z_callVx (As := [.int (x0), .int (x1), .int (x2)]) (rest := []) (wc := ((o, .inr (6, vs)) :: wt)) (zW_k ea mi sa) hX.1 Z Mz9 hM (cwV 3 hts gL_press_X5_press rfl hrm.1 hrm.2 (by decide +kernel) ⟨Nat.le_refl _, Nat.le_refl _⟩) is9 hp1 hp2 (va_recv Z.2.1 Mz9.1 (ci := 6) (q0 := 0) rfl rfl) rfl hl9.1 (Nat.le_of_ble_eq_true rfl) dL_press_4 ⟨Nat.le_of_ble_eq_true rfl, Nat.le_of_ble_eq_true rfl⟩ rfl (fun Hp9 lc9 q9 ce Mz9 hcell hv hcl => ?_)
  refine vx_catch (name := "java/lang/IllegalArgumentException") Z.1.2.2.2.1 [(⟨0, 7, 8, 16⟩ : ExceptionTableEntry)] (⟨0, 7, 13, 19⟩ : ExceptionTableEntry) [(⟨0, 7, 18, 26⟩ : ExceptionTableEntry)] htb (List.forall_mem_cons.mpr ⟨Or.inr ⟨by decide, "java/lang/IndexOutOfBoundsException", hts (.classLink RL 16 "java/lang/IndexOutOfBoundsException") (by decide +kernel), hX.2.1⟩, fun _ hz => absurd hz List.not_mem_nil⟩) (by decide) (by decide) (hts (.classLink RL 19 "java/lang/IllegalArgumentException") (by decide +kernel)) ((zWw hX.1 (w := .castable "java/lang/IllegalArgumentException" "java/lang/IllegalArgumentException") (by decide +kernel)).use rfl) hcell hv hcl ?_
  refine lv_astore (lv' := [(4, .ref q9), (0, .ref o), (1, .int (x0)), (2, .int (x1)), (3, .int (x2))]) hx hb dL_press_13 hl9 (by decide) rfl (fun sl9 hl9 => ?_)
  refine lv_ldc (v := (-1000002)) hx hb Z.1.2.2.2.1 (hts (.constant RL 21 (-1000002)) (by decide +kernel)) dL_press_15 ?_
  exact hret _ _ _ _ _ sl9 _ _ () Mz9 rfl rfl rfl (Nat.le_of_ble_eq_true rfl) (Nat.le_of_ble_eq_true rfl) dL_press_17
set_option maxHeartbeats 4000000 in
set_option maxRecDepth 100000 in
theorem lk_press_3 (l : Launch) (D : va_G) (T : Nat → ClassId) (ea mi : Nat) (sa : Nat → Nat) (o : Nat) (x0 x1 x2 : Int32) {vs : List Value} {wt : va_W} {rm : Room} (hM : ZB l yX5_press wsX5_press rm (zW ea mi sa) D T ((o, .inr (6, vs)) :: wt) [.ref o, .int x0, .int x1, .int x2] "java/lang/IllegalStateException") (hrm : rm.cells = 1 ∧ rm.slots = 6) : ZIH l yL_press wsL_press (lkR rm 6 1 6) (zX ea mi sa) D T (S := Unit) ((o, .inr (6, vs)) :: wt) (fun _ => ((o, .inr (6, vs)) :: wt)) [.ref o, .int x0, .int x1, .int x2] (-1000003) 1 6 := by
  refine z_inIHW (cc := cL_press) (maxL := 5) (hh := [(0, 7, 8, 16), (0, 7, 13, 19), (0, 7, 18, 26)]) (rt := .int) (by decide +kernel) rfl (Nat.le_of_ble_eq_true rfl) ?_
  intro p e s m args below meth c sl9 A Q Z hX htb hnm Mz9 hl9 hret
  have Z : zC p s m args c cL_press 5 RL wsL_press D T A := Z
  have hx := Z.1.1
  have hb := Z.1.2.1
  have hts := Z.1.2.2.2.2
  have hl9 : lv_has sl9 5 [(0, .ref o), (1, .int (x0)), (2, .int (x1)), (3, .int (x2))] := hl9
  obtain ⟨is9, hp1, hp2, hp3⟩ := mid_put4 [] ((o, .inr (6, vs)) :: wt)
  refine lv_aload_n hx hb dL_press_0 rfl (lv_at hl9 0 rfl) ?_
  refine lv_iload_n hx hb dL_press_1 rfl (lv_at hl9 1 rfl) ?_
  refine lv_iload_n hx hb dL_press_2 rfl (lv_at hl9 2 rfl) ?_
  refine lv_iload_n hx hb dL_press_3 rfl (lv_at hl9 3 rfl) ?_
  refine z_callVx (As := [.int (x0), .int (x1), .int (x2)]) (rest := []) (wc := ((o, .inr (6, vs)) :: wt)) (zW_k ea mi sa) hX.1 Z Mz9 hM (cwV 3 hts gL_press_X5_press rfl hrm.1 hrm.2 (by decide +kernel) ⟨Nat.le_refl _, Nat.le_refl _⟩) is9 hp1 hp2 (va_recv Z.2.1 Mz9.1 (ci := 6) (q0 := 0) rfl rfl) rfl hl9.1 (Nat.le_of_ble_eq_true rfl) dL_press_4 ⟨Nat.le_of_ble_eq_true rfl, Nat.le_of_ble_eq_true rfl⟩ rfl (fun Hp9 lc9 q9 ce Mz9 hcell hv hcl => ?_)
  refine vx_catch (name := "java/lang/IllegalStateException") Z.1.2.2.2.1 [(⟨0, 7, 8, 16⟩ : ExceptionTableEntry), (⟨0, 7, 13, 19⟩ : ExceptionTableEntry)] (⟨0, 7, 18, 26⟩ : ExceptionTableEntry) [] htb (List.forall_mem_cons.mpr ⟨Or.inr ⟨by decide, "java/lang/IndexOutOfBoundsException", hts (.classLink RL 16 "java/lang/IndexOutOfBoundsException") (by decide +kernel), hX.2.2.1⟩, List.forall_mem_cons.mpr ⟨Or.inr ⟨by decide, "java/lang/IllegalArgumentException", hts (.classLink RL 19 "java/lang/IllegalArgumentException") (by decide +kernel), hX.2.2.2⟩, fun _ hz => absurd hz List.not_mem_nil⟩⟩) (by decide) (by decide) (hts (.classLink RL 26 "java/lang/IllegalStateException") (by decide +kernel)) ((zWw hX.1 (w := .castable "java/lang/IllegalStateException" "java/lang/IllegalStateException") (by decide +kernel)).use rfl) hcell hv hcl ?_
  refine lv_astore (lv' := [(4, .ref q9), (0, .ref o), (1, .int (x0)), (2, .int (x1)), (3, .int (x2))]) hx hb dL_press_18 hl9 (by decide) rfl (fun sl9 hl9 => ?_)
  refine lv_ldc (v := (-1000003)) hx hb Z.1.2.2.2.1 (hts (.constant RL 28 (-1000003)) (by decide +kernel)) dL_press_20 ?_
  exact hret _ _ _ _ _ sl9 _ _ () Mz9 rfl rfl rfl (Nat.le_of_ble_eq_true rfl) (Nat.le_of_ble_eq_true rfl) dL_press_22
set_option maxHeartbeats 4000000 in
set_option maxRecDepth 100000 in
theorem lk_quench (l : Launch) (D : va_G) (T : Nat → ClassId) (ea mi : Nat) (sa : Nat → Nat) (o : Nat) (x0 x1 : Int32) {vs : List Value} {wt : va_W} {rm : Room} {S : Type} {w' : S → va_W} {mc ms : Nat} {rv : Int32} (hM : ZIH l yX5_quench wsX5_quench rm (zW ea mi sa) D T (S := S) ((o, .inr (6, vs)) :: wt) w' [.ref o, .int x0, .int x1] rv mc ms) (hrm : rm.cells = mc ∧ rm.slots = ms) (hf : ∀ (u : S) (j : Nat), j < ((o, .inr (6, vs)) :: wt).length → ((w' u).map Prod.fst)[j]? = (((o, .inr (6, vs)) :: wt).map Prod.fst)[j]?) (hlen : ∀ u : S, ((o, .inr (6, vs)) :: wt).length ≤ (w' u).length) : ZIH l yL_quench wsL_quench (lkR rm 5 mc ms) (zX ea mi sa) D T (S := S) ((o, .inr (6, vs)) :: wt) w' [.ref o, .int x0, .int x1] rv mc ms := by
  refine z_inIHW (cc := cL_quench) (maxL := 4) (hh := [(0, 6, 7, 19), (0, 6, 11, 26)]) (rt := .int) (by decide +kernel) rfl (Nat.le_of_ble_eq_true rfl) ?_
  intro p e s m args below meth c sl9 A Q Z hX htb hnm Mz9 hl9 hret
  have Z : zC p s m args c cL_quench 4 RL wsL_quench D T A := Z
  have hx := Z.1.1
  have hb := Z.1.2.1
  have hts := Z.1.2.2.2.2
  have hl9 : lv_has sl9 4 [(0, .ref o), (1, .int (x0)), (2, .int (x1))] := hl9
  obtain ⟨is9, hp1, hp2, hp3⟩ := mid_put4 [] ((o, .inr (6, vs)) :: wt)
  refine lv_aload_n hx hb dL_quench_0 rfl (lv_at hl9 0 rfl) ?_
  refine lv_iload_n hx hb dL_quench_1 rfl (lv_at hl9 1 rfl) ?_
  refine lv_iload_n hx hb dL_quench_2 rfl (lv_at hl9 2 rfl) ?_
  refine z_callViH (As := [.int (x0), .int (x1)]) (rest := []) (wc := ((o, .inr (6, vs)) :: wt)) (zW_k ea mi sa) hX.1 Z Mz9 hM (cwV 2 hts gL_quench_X5_quench rfl hrm.1 hrm.2 (by decide +kernel) ⟨Nat.le_refl _, Nat.le_refl _⟩) is9 hp1 hp2 hf hlen (va_recv Z.2.1 Mz9.1 (ci := 6) (q0 := 0) rfl rfl) rfl hl9.1 (Nat.le_of_ble_eq_true rfl) dL_quench_3 ⟨Nat.le_of_eq (Nat.zero_add _), Nat.le_of_eq (Nat.zero_add _)⟩ rfl (fun u Hp9 lc9 Mz9 => ?_)
  have Mz9 : zM D A s.heap (w' u) _ _ := zM_w (hp3 _ (hlen u)) Mz9
  exact hret _ _ _ _ _ sl9 _ _ u Mz9 rfl (rfl) rfl (Nat.le_of_eq (Nat.zero_add _)) (Nat.le_of_eq (Nat.zero_add _)) dL_quench_6
set_option maxHeartbeats 4000000 in
set_option maxRecDepth 100000 in
theorem lk_quench_1 (l : Launch) (D : va_G) (T : Nat → ClassId) (ea mi : Nat) (sa : Nat → Nat) (o : Nat) (x0 x1 : Int32) {vs : List Value} {wt : va_W} {rm : Room} (hM : ZB l yX5_quench wsX5_quench rm (zW ea mi sa) D T ((o, .inr (6, vs)) :: wt) [.ref o, .int x0, .int x1] "java/lang/IllegalArgumentException") (hrm : rm.cells = 1 ∧ rm.slots = 6) : ZIH l yL_quench wsL_quench (lkR rm 5 1 6) (zX ea mi sa) D T (S := Unit) ((o, .inr (6, vs)) :: wt) (fun _ => ((o, .inr (6, vs)) :: wt)) [.ref o, .int x0, .int x1] (-1000002) 1 6 := by
  refine z_inIHW (cc := cL_quench) (maxL := 4) (hh := [(0, 6, 7, 19), (0, 6, 11, 26)]) (rt := .int) (by decide +kernel) rfl (Nat.le_of_ble_eq_true rfl) ?_
  intro p e s m args below meth c sl9 A Q Z hX htb hnm Mz9 hl9 hret
  have Z : zC p s m args c cL_quench 4 RL wsL_quench D T A := Z
  have hx := Z.1.1
  have hb := Z.1.2.1
  have hts := Z.1.2.2.2.2
  have hl9 : lv_has sl9 4 [(0, .ref o), (1, .int (x0)), (2, .int (x1))] := hl9
  obtain ⟨is9, hp1, hp2, hp3⟩ := mid_put4 [] ((o, .inr (6, vs)) :: wt)
  refine lv_aload_n hx hb dL_quench_0 rfl (lv_at hl9 0 rfl) ?_
  refine lv_iload_n hx hb dL_quench_1 rfl (lv_at hl9 1 rfl) ?_
  refine lv_iload_n hx hb dL_quench_2 rfl (lv_at hl9 2 rfl) ?_
  refine z_callVx (As := [.int (x0), .int (x1)]) (rest := []) (wc := ((o, .inr (6, vs)) :: wt)) (zW_k ea mi sa) hX.1 Z Mz9 hM (cwV 2 hts gL_quench_X5_quench rfl hrm.1 hrm.2 (by decide +kernel) ⟨Nat.le_refl _, Nat.le_refl _⟩) is9 hp1 hp2 (va_recv Z.2.1 Mz9.1 (ci := 6) (q0 := 0) rfl rfl) rfl hl9.1 (Nat.le_of_ble_eq_true rfl) dL_quench_3 ⟨Nat.le_of_ble_eq_true rfl, Nat.le_of_ble_eq_true rfl⟩ rfl (fun Hp9 lc9 q9 ce Mz9 hcell hv hcl => ?_)
  refine vx_catch (name := "java/lang/IllegalArgumentException") Z.1.2.2.2.1 [] (⟨0, 6, 7, 19⟩ : ExceptionTableEntry) [(⟨0, 6, 11, 26⟩ : ExceptionTableEntry)] htb (fun z hz => absurd hz List.not_mem_nil) (by decide) (by decide) (hts (.classLink RL 19 "java/lang/IllegalArgumentException") (by decide +kernel)) ((zWw hX.1 (w := .castable "java/lang/IllegalArgumentException" "java/lang/IllegalArgumentException") (by decide +kernel)).use rfl) hcell hv hcl ?_
  refine lv_astore_n (lv' := [(3, .ref q9), (0, .ref o), (1, .int (x0)), (2, .int (x1))]) hx hb dL_quench_7 rfl hl9 (by decide) rfl (fun sl9 hl9 => ?_)
  refine lv_ldc (v := (-1000002)) hx hb Z.1.2.2.2.1 (hts (.constant RL 21 (-1000002)) (by decide +kernel)) dL_quench_8 ?_
  exact hret _ _ _ _ _ sl9 _ _ () Mz9 rfl rfl rfl (Nat.le_of_ble_eq_true rfl) (Nat.le_of_ble_eq_true rfl) dL_quench_10
set_option maxHeartbeats 4000000 in
set_option maxRecDepth 100000 in
theorem lk_quench_2 (l : Launch) (D : va_G) (T : Nat → ClassId) (ea mi : Nat) (sa : Nat → Nat) (o : Nat) (x0 x1 : Int32) {vs : List Value} {wt : va_W} {rm : Room} (hM : ZB l yX5_quench wsX5_quench rm (zW ea mi sa) D T ((o, .inr (6, vs)) :: wt) [.ref o, .int x0, .int x1] "java/lang/IllegalStateException") (hrm : rm.cells = 1 ∧ rm.slots = 6) : ZIH l yL_quench wsL_quench (lkR rm 5 1 6) (zX ea mi sa) D T (S := Unit) ((o, .inr (6, vs)) :: wt) (fun _ => ((o, .inr (6, vs)) :: wt)) [.ref o, .int x0, .int x1] (-1000003) 1 6 := by
  refine z_inIHW (cc := cL_quench) (maxL := 4) (hh := [(0, 6, 7, 19), (0, 6, 11, 26)]) (rt := .int) (by decide +kernel) rfl (Nat.le_of_ble_eq_true rfl) ?_
  intro p e s m args below meth c sl9 A Q Z hX htb hnm Mz9 hl9 hret
  have Z : zC p s m args c cL_quench 4 RL wsL_quench D T A := Z
  have hx := Z.1.1
  have hb := Z.1.2.1
  have hts := Z.1.2.2.2.2
  have hl9 : lv_has sl9 4 [(0, .ref o), (1, .int (x0)), (2, .int (x1))] := hl9
  obtain ⟨is9, hp1, hp2, hp3⟩ := mid_put4 [] ((o, .inr (6, vs)) :: wt)
  refine lv_aload_n hx hb dL_quench_0 rfl (lv_at hl9 0 rfl) ?_
  refine lv_iload_n hx hb dL_quench_1 rfl (lv_at hl9 1 rfl) ?_
  refine lv_iload_n hx hb dL_quench_2 rfl (lv_at hl9 2 rfl) ?_
  refine z_callVx (As := [.int (x0), .int (x1)]) (rest := []) (wc := ((o, .inr (6, vs)) :: wt)) (zW_k ea mi sa) hX.1 Z Mz9 hM (cwV 2 hts gL_quench_X5_quench rfl hrm.1 hrm.2 (by decide +kernel) ⟨Nat.le_refl _, Nat.le_refl _⟩) is9 hp1 hp2 (va_recv Z.2.1 Mz9.1 (ci := 6) (q0 := 0) rfl rfl) rfl hl9.1 (Nat.le_of_ble_eq_true rfl) dL_quench_3 ⟨Nat.le_of_ble_eq_true rfl, Nat.le_of_ble_eq_true rfl⟩ rfl (fun Hp9 lc9 q9 ce Mz9 hcell hv hcl => ?_)
  refine vx_catch (name := "java/lang/IllegalStateException") Z.1.2.2.2.1 [(⟨0, 6, 7, 19⟩ : ExceptionTableEntry)] (⟨0, 6, 11, 26⟩ : ExceptionTableEntry) [] htb (List.forall_mem_cons.mpr ⟨Or.inr ⟨by decide, "java/lang/IllegalArgumentException", hts (.classLink RL 19 "java/lang/IllegalArgumentException") (by decide +kernel), hX.2.2.2⟩, fun _ hz => absurd hz List.not_mem_nil⟩) (by decide) (by decide) (hts (.classLink RL 26 "java/lang/IllegalStateException") (by decide +kernel)) ((zWw hX.1 (w := .castable "java/lang/IllegalStateException" "java/lang/IllegalStateException") (by decide +kernel)).use rfl) hcell hv hcl ?_
  refine lv_astore_n (lv' := [(3, .ref q9), (0, .ref o), (1, .int (x0)), (2, .int (x1))]) hx hb dL_quench_11 rfl hl9 (by decide) rfl (fun sl9 hl9 => ?_)
  refine lv_ldc (v := (-1000003)) hx hb Z.1.2.2.2.1 (hts (.constant RL 28 (-1000003)) (by decide +kernel)) dL_quench_12 ?_
  exact hret _ _ _ _ _ sl9 _ _ () Mz9 rfl rfl rfl (Nat.le_of_ble_eq_true rfl) (Nat.le_of_ble_eq_true rfl) dL_quench_14
set_option maxHeartbeats 4000000 in
set_option maxRecDepth 100000 in
theorem lk_temper (l : Launch) (D : va_G) (T : Nat → ClassId) (ea mi : Nat) (sa : Nat → Nat) (o : Nat) (x0 x1 : Int32) {vs : List Value} {wt : va_W} {rm : Room} {S : Type} {w' : S → va_W} {mc ms : Nat} {rv : Int32} (hM : ZIH l yX5_temper wsX5_temper rm (zW ea mi sa) D T (S := S) ((o, .inr (6, vs)) :: wt) w' [.ref o, .int x0, .int x1] rv mc ms) (hrm : rm.cells = mc ∧ rm.slots = ms) (hf : ∀ (u : S) (j : Nat), j < ((o, .inr (6, vs)) :: wt).length → ((w' u).map Prod.fst)[j]? = (((o, .inr (6, vs)) :: wt).map Prod.fst)[j]?) (hlen : ∀ u : S, ((o, .inr (6, vs)) :: wt).length ≤ (w' u).length) : ZIH l yL_temper wsL_temper (lkR rm 4 mc ms) (zX ea mi sa) D T (S := S) ((o, .inr (6, vs)) :: wt) w' [.ref o, .int x0, .int x1] rv mc ms := by
  refine z_inIHW (cc := cL_temper) (maxL := 4) (hh := [(0, 6, 7, 16), (0, 6, 11, 19), (0, 6, 15, 26)]) (rt := .int) (by decide +kernel) rfl (Nat.le_of_ble_eq_true rfl) ?_
  intro p e s m args below meth c sl9 A Q Z hX htb hnm Mz9 hl9 hret
  have Z : zC p s m args c cL_temper 4 RL wsL_temper D T A := Z
  have hx := Z.1.1
  have hb := Z.1.2.1
  have hts := Z.1.2.2.2.2
  have hl9 : lv_has sl9 4 [(0, .ref o), (1, .int (x0)), (2, .int (x1))] := hl9
  obtain ⟨is9, hp1, hp2, hp3⟩ := mid_put4 [] ((o, .inr (6, vs)) :: wt)
  refine lv_aload_n hx hb dL_temper_0 rfl (lv_at hl9 0 rfl) ?_
  refine lv_iload_n hx hb dL_temper_1 rfl (lv_at hl9 1 rfl) ?_
  refine lv_iload_n hx hb dL_temper_2 rfl (lv_at hl9 2 rfl) ?_
  refine z_callViH (As := [.int (x0), .int (x1)]) (rest := []) (wc := ((o, .inr (6, vs)) :: wt)) (zW_k ea mi sa) hX.1 Z Mz9 hM (cwV 2 hts gL_temper_X5_temper rfl hrm.1 hrm.2 (by decide +kernel) ⟨Nat.le_refl _, Nat.le_refl _⟩) is9 hp1 hp2 hf hlen (va_recv Z.2.1 Mz9.1 (ci := 6) (q0 := 0) rfl rfl) rfl hl9.1 (Nat.le_of_ble_eq_true rfl) dL_temper_3 ⟨Nat.le_of_eq (Nat.zero_add _), Nat.le_of_eq (Nat.zero_add _)⟩ rfl (fun u Hp9 lc9 Mz9 => ?_)
  have Mz9 : zM D A s.heap (w' u) _ _ := zM_w (hp3 _ (hlen u)) Mz9
  exact hret _ _ _ _ _ sl9 _ _ u Mz9 rfl (rfl) rfl (Nat.le_of_eq (Nat.zero_add _)) (Nat.le_of_eq (Nat.zero_add _)) dL_temper_6
set_option maxHeartbeats 4000000 in
set_option maxRecDepth 100000 in
theorem lk_temper_1 (l : Launch) (D : va_G) (T : Nat → ClassId) (ea mi : Nat) (sa : Nat → Nat) (o : Nat) (x0 x1 : Int32) {vs : List Value} {wt : va_W} {rm : Room} (hM : ZB l yX5_temper wsX5_temper rm (zW ea mi sa) D T ((o, .inr (6, vs)) :: wt) [.ref o, .int x0, .int x1] "java/lang/IndexOutOfBoundsException") (hrm : rm.cells = 1 ∧ rm.slots = 6) : ZIH l yL_temper wsL_temper (lkR rm 4 1 6) (zX ea mi sa) D T (S := Unit) ((o, .inr (6, vs)) :: wt) (fun _ => ((o, .inr (6, vs)) :: wt)) [.ref o, .int x0, .int x1] (-1000001) 1 6 := by
  refine z_inIHW (cc := cL_temper) (maxL := 4) (hh := [(0, 6, 7, 16), (0, 6, 11, 19), (0, 6, 15, 26)]) (rt := .int) (by decide +kernel) rfl (Nat.le_of_ble_eq_true rfl) ?_
  intro p e s m args below meth c sl9 A Q Z hX htb hnm Mz9 hl9 hret
  have Z : zC p s m args c cL_temper 4 RL wsL_temper D T A := Z
  have hx := Z.1.1
  have hb := Z.1.2.1
  have hts := Z.1.2.2.2.2
  have hl9 : lv_has sl9 4 [(0, .ref o), (1, .int (x0)), (2, .int (x1))] := hl9
  obtain ⟨is9, hp1, hp2, hp3⟩ := mid_put4 [] ((o, .inr (6, vs)) :: wt)
  refine lv_aload_n hx hb dL_temper_0 rfl (lv_at hl9 0 rfl) ?_
  refine lv_iload_n hx hb dL_temper_1 rfl (lv_at hl9 1 rfl) ?_
  refine lv_iload_n hx hb dL_temper_2 rfl (lv_at hl9 2 rfl) ?_
  refine z_callVx (As := [.int (x0), .int (x1)]) (rest := []) (wc := ((o, .inr (6, vs)) :: wt)) (zW_k ea mi sa) hX.1 Z Mz9 hM (cwV 2 hts gL_temper_X5_temper rfl hrm.1 hrm.2 (by decide +kernel) ⟨Nat.le_refl _, Nat.le_refl _⟩) is9 hp1 hp2 (va_recv Z.2.1 Mz9.1 (ci := 6) (q0 := 0) rfl rfl) rfl hl9.1 (Nat.le_of_ble_eq_true rfl) dL_temper_3 ⟨Nat.le_of_ble_eq_true rfl, Nat.le_of_ble_eq_true rfl⟩ rfl (fun Hp9 lc9 q9 ce Mz9 hcell hv hcl => ?_)
  refine vx_catch (name := "java/lang/IndexOutOfBoundsException") Z.1.2.2.2.1 [] (⟨0, 6, 7, 16⟩ : ExceptionTableEntry) [(⟨0, 6, 11, 19⟩ : ExceptionTableEntry), (⟨0, 6, 15, 26⟩ : ExceptionTableEntry)] htb (fun z hz => absurd hz List.not_mem_nil) (by decide) (by decide) (hts (.classLink RL 16 "java/lang/IndexOutOfBoundsException") (by decide +kernel)) ((zWw hX.1 (w := .castable "java/lang/IndexOutOfBoundsException" "java/lang/IndexOutOfBoundsException") (by decide +kernel)).use rfl) hcell hv hcl ?_
  refine lv_astore_n (lv' := [(3, .ref q9), (0, .ref o), (1, .int (x0)), (2, .int (x1))]) hx hb dL_temper_7 rfl hl9 (by decide) rfl (fun sl9 hl9 => ?_)
  refine lv_ldc (v := (-1000001)) hx hb Z.1.2.2.2.1 (hts (.constant RL 18 (-1000001)) (by decide +kernel)) dL_temper_8 ?_
  exact hret _ _ _ _ _ sl9 _ _ () Mz9 rfl rfl rfl (Nat.le_of_ble_eq_true rfl) (Nat.le_of_ble_eq_true rfl) dL_temper_10
set_option maxHeartbeats 4000000 in
set_option maxRecDepth 100000 in
theorem lk_temper_2 (l : Launch) (D : va_G) (T : Nat → ClassId) (ea mi : Nat) (sa : Nat → Nat) (o : Nat) (x0 x1 : Int32) {vs : List Value} {wt : va_W} {rm : Room} (hM : ZB l yX5_temper wsX5_temper rm (zW ea mi sa) D T ((o, .inr (6, vs)) :: wt) [.ref o, .int x0, .int x1] "java/lang/IllegalArgumentException") (hrm : rm.cells = 1 ∧ rm.slots = 6) : ZIH l yL_temper wsL_temper (lkR rm 4 1 6) (zX ea mi sa) D T (S := Unit) ((o, .inr (6, vs)) :: wt) (fun _ => ((o, .inr (6, vs)) :: wt)) [.ref o, .int x0, .int x1] (-1000002) 1 6 := by
  refine z_inIHW (cc := cL_temper) (maxL := 4) (hh := [(0, 6, 7, 16), (0, 6, 11, 19), (0, 6, 15, 26)]) (rt := .int) (by decide +kernel) rfl (Nat.le_of_ble_eq_true rfl) ?_
  intro p e s m args below meth c sl9 A Q Z hX htb hnm Mz9 hl9 hret
  have Z : zC p s m args c cL_temper 4 RL wsL_temper D T A := Z
  have hx := Z.1.1
  have hb := Z.1.2.1
  have hts := Z.1.2.2.2.2
  have hl9 : lv_has sl9 4 [(0, .ref o), (1, .int (x0)), (2, .int (x1))] := hl9
  obtain ⟨is9, hp1, hp2, hp3⟩ := mid_put4 [] ((o, .inr (6, vs)) :: wt)
  refine lv_aload_n hx hb dL_temper_0 rfl (lv_at hl9 0 rfl) ?_
  refine lv_iload_n hx hb dL_temper_1 rfl (lv_at hl9 1 rfl) ?_
  refine lv_iload_n hx hb dL_temper_2 rfl (lv_at hl9 2 rfl) ?_
  refine z_callVx (As := [.int (x0), .int (x1)]) (rest := []) (wc := ((o, .inr (6, vs)) :: wt)) (zW_k ea mi sa) hX.1 Z Mz9 hM (cwV 2 hts gL_temper_X5_temper rfl hrm.1 hrm.2 (by decide +kernel) ⟨Nat.le_refl _, Nat.le_refl _⟩) is9 hp1 hp2 (va_recv Z.2.1 Mz9.1 (ci := 6) (q0 := 0) rfl rfl) rfl hl9.1 (Nat.le_of_ble_eq_true rfl) dL_temper_3 ⟨Nat.le_of_ble_eq_true rfl, Nat.le_of_ble_eq_true rfl⟩ rfl (fun Hp9 lc9 q9 ce Mz9 hcell hv hcl => ?_)
  refine vx_catch (name := "java/lang/IllegalArgumentException") Z.1.2.2.2.1 [(⟨0, 6, 7, 16⟩ : ExceptionTableEntry)] (⟨0, 6, 11, 19⟩ : ExceptionTableEntry) [(⟨0, 6, 15, 26⟩ : ExceptionTableEntry)] htb (List.forall_mem_cons.mpr ⟨Or.inr ⟨by decide, "java/lang/IndexOutOfBoundsException", hts (.classLink RL 16 "java/lang/IndexOutOfBoundsException") (by decide +kernel), hX.2.1⟩, fun _ hz => absurd hz List.not_mem_nil⟩) (by decide) (by decide) (hts (.classLink RL 19 "java/lang/IllegalArgumentException") (by decide +kernel)) ((zWw hX.1 (w := .castable "java/lang/IllegalArgumentException" "java/lang/IllegalArgumentException") (by decide +kernel)).use rfl) hcell hv hcl ?_
  refine lv_astore_n (lv' := [(3, .ref q9), (0, .ref o), (1, .int (x0)), (2, .int (x1))]) hx hb dL_temper_11 rfl hl9 (by decide) rfl (fun sl9 hl9 => ?_)
  refine lv_ldc (v := (-1000002)) hx hb Z.1.2.2.2.1 (hts (.constant RL 21 (-1000002)) (by decide +kernel)) dL_temper_12 ?_
  exact hret _ _ _ _ _ sl9 _ _ () Mz9 rfl rfl rfl (Nat.le_of_ble_eq_true rfl) (Nat.le_of_ble_eq_true rfl) dL_temper_14
set_option maxHeartbeats 4000000 in
set_option maxRecDepth 100000 in
theorem lk_temper_3 (l : Launch) (D : va_G) (T : Nat → ClassId) (ea mi : Nat) (sa : Nat → Nat) (o : Nat) (x0 x1 : Int32) {vs : List Value} {wt : va_W} {rm : Room} (hM : ZB l yX5_temper wsX5_temper rm (zW ea mi sa) D T ((o, .inr (6, vs)) :: wt) [.ref o, .int x0, .int x1] "java/lang/IllegalStateException") (hrm : rm.cells = 1 ∧ rm.slots = 6) : ZIH l yL_temper wsL_temper (lkR rm 4 1 6) (zX ea mi sa) D T (S := Unit) ((o, .inr (6, vs)) :: wt) (fun _ => ((o, .inr (6, vs)) :: wt)) [.ref o, .int x0, .int x1] (-1000003) 1 6 := by
  refine z_inIHW (cc := cL_temper) (maxL := 4) (hh := [(0, 6, 7, 16), (0, 6, 11, 19), (0, 6, 15, 26)]) (rt := .int) (by decide +kernel) rfl (Nat.le_of_ble_eq_true rfl) ?_
  intro p e s m args below meth c sl9 A Q Z hX htb hnm Mz9 hl9 hret
  have Z : zC p s m args c cL_temper 4 RL wsL_temper D T A := Z
  have hx := Z.1.1
  have hb := Z.1.2.1
  have hts := Z.1.2.2.2.2
  have hl9 : lv_has sl9 4 [(0, .ref o), (1, .int (x0)), (2, .int (x1))] := hl9
  obtain ⟨is9, hp1, hp2, hp3⟩ := mid_put4 [] ((o, .inr (6, vs)) :: wt)
  refine lv_aload_n hx hb dL_temper_0 rfl (lv_at hl9 0 rfl) ?_
  refine lv_iload_n hx hb dL_temper_1 rfl (lv_at hl9 1 rfl) ?_
  refine lv_iload_n hx hb dL_temper_2 rfl (lv_at hl9 2 rfl) ?_
  refine z_callVx (As := [.int (x0), .int (x1)]) (rest := []) (wc := ((o, .inr (6, vs)) :: wt)) (zW_k ea mi sa) hX.1 Z Mz9 hM (cwV 2 hts gL_temper_X5_temper rfl hrm.1 hrm.2 (by decide +kernel) ⟨Nat.le_refl _, Nat.le_refl _⟩) is9 hp1 hp2 (va_recv Z.2.1 Mz9.1 (ci := 6) (q0 := 0) rfl rfl) rfl hl9.1 (Nat.le_of_ble_eq_true rfl) dL_temper_3 ⟨Nat.le_of_ble_eq_true rfl, Nat.le_of_ble_eq_true rfl⟩ rfl (fun Hp9 lc9 q9 ce Mz9 hcell hv hcl => ?_)
  refine vx_catch (name := "java/lang/IllegalStateException") Z.1.2.2.2.1 [(⟨0, 6, 7, 16⟩ : ExceptionTableEntry), (⟨0, 6, 11, 19⟩ : ExceptionTableEntry)] (⟨0, 6, 15, 26⟩ : ExceptionTableEntry) [] htb (List.forall_mem_cons.mpr ⟨Or.inr ⟨by decide, "java/lang/IndexOutOfBoundsException", hts (.classLink RL 16 "java/lang/IndexOutOfBoundsException") (by decide +kernel), hX.2.2.1⟩, List.forall_mem_cons.mpr ⟨Or.inr ⟨by decide, "java/lang/IllegalArgumentException", hts (.classLink RL 19 "java/lang/IllegalArgumentException") (by decide +kernel), hX.2.2.2⟩, fun _ hz => absurd hz List.not_mem_nil⟩⟩) (by decide) (by decide) (hts (.classLink RL 26 "java/lang/IllegalStateException") (by decide +kernel)) ((zWw hX.1 (w := .castable "java/lang/IllegalStateException" "java/lang/IllegalStateException") (by decide +kernel)).use rfl) hcell hv hcl ?_
  refine lv_astore_n (lv' := [(3, .ref q9), (0, .ref o), (1, .int (x0)), (2, .int (x1))]) hx hb dL_temper_15 rfl hl9 (by decide) rfl (fun sl9 hl9 => ?_)
  refine lv_ldc (v := (-1000003)) hx hb Z.1.2.2.2.1 (hts (.constant RL 28 (-1000003)) (by decide +kernel)) dL_temper_16 ?_
  exact hret _ _ _ _ _ sl9 _ _ () Mz9 rfl rfl rfl (Nat.le_of_ble_eq_true rfl) (Nat.le_of_ble_eq_true rfl) dL_temper_18
set_option maxHeartbeats 4000000 in
set_option maxRecDepth 100000 in
theorem lk_hardness (l : Launch) (D : va_G) (T : Nat → ClassId) (ea mi : Nat) (sa : Nat → Nat) (o : Nat) (x0 x1 : Int32) {vs : List Value} {wt : va_W} {rm : Room} {S : Type} {w' : S → va_W} {mc ms : Nat} {rv : Int32} (hM : ZIH l yX5_hardness wsX5_hardness rm (zW ea mi sa) D T (S := S) ((o, .inr (6, vs)) :: wt) w' [.ref o, .int x0, .int x1] rv mc ms) (hrm : rm.cells = mc ∧ rm.slots = ms) (hf : ∀ (u : S) (j : Nat), j < ((o, .inr (6, vs)) :: wt).length → ((w' u).map Prod.fst)[j]? = (((o, .inr (6, vs)) :: wt).map Prod.fst)[j]?) (hlen : ∀ u : S, ((o, .inr (6, vs)) :: wt).length ≤ (w' u).length) : ZIH l yL_hardness wsL_hardness (lkR rm 4 mc ms) (zX ea mi sa) D T (S := S) ((o, .inr (6, vs)) :: wt) w' [.ref o, .int x0, .int x1] rv mc ms := by
  refine z_inIHW (cc := cL_hardness) (maxL := 4) (hh := [(0, 6, 7, 16)]) (rt := .int) (by decide +kernel) rfl (Nat.le_of_ble_eq_true rfl) ?_
  intro p e s m args below meth c sl9 A Q Z hX htb hnm Mz9 hl9 hret
  have Z : zC p s m args c cL_hardness 4 RL wsL_hardness D T A := Z
  have hx := Z.1.1
  have hb := Z.1.2.1
  have hts := Z.1.2.2.2.2
  have hl9 : lv_has sl9 4 [(0, .ref o), (1, .int (x0)), (2, .int (x1))] := hl9
  obtain ⟨is9, hp1, hp2, hp3⟩ := mid_put4 [] ((o, .inr (6, vs)) :: wt)
  refine lv_aload_n hx hb dL_hardness_0 rfl (lv_at hl9 0 rfl) ?_
  refine lv_iload_n hx hb dL_hardness_1 rfl (lv_at hl9 1 rfl) ?_
  refine lv_iload_n hx hb dL_hardness_2 rfl (lv_at hl9 2 rfl) ?_
  refine z_callViH (As := [.int (x0), .int (x1)]) (rest := []) (wc := ((o, .inr (6, vs)) :: wt)) (zW_k ea mi sa) hX.1 Z Mz9 hM (cwV 2 hts gL_hardness_X5_hardness rfl hrm.1 hrm.2 (by decide +kernel) ⟨Nat.le_refl _, Nat.le_refl _⟩) is9 hp1 hp2 hf hlen (va_recv Z.2.1 Mz9.1 (ci := 6) (q0 := 0) rfl rfl) rfl hl9.1 (Nat.le_of_ble_eq_true rfl) dL_hardness_3 ⟨Nat.le_of_eq (Nat.zero_add _), Nat.le_of_eq (Nat.zero_add _)⟩ rfl (fun u Hp9 lc9 Mz9 => ?_)
  have Mz9 : zM D A s.heap (w' u) _ _ := zM_w (hp3 _ (hlen u)) Mz9
  exact hret _ _ _ _ _ sl9 _ _ u Mz9 rfl (rfl) rfl (Nat.le_of_eq (Nat.zero_add _)) (Nat.le_of_eq (Nat.zero_add _)) dL_hardness_6
set_option maxHeartbeats 4000000 in
set_option maxRecDepth 100000 in
theorem lk_hardness_1 (l : Launch) (D : va_G) (T : Nat → ClassId) (ea mi : Nat) (sa : Nat → Nat) (o : Nat) (x0 x1 : Int32) {vs : List Value} {wt : va_W} {rm : Room} (hM : ZB l yX5_hardness wsX5_hardness rm (zW ea mi sa) D T ((o, .inr (6, vs)) :: wt) [.ref o, .int x0, .int x1] "java/lang/IndexOutOfBoundsException") (hrm : rm.cells = 1 ∧ rm.slots = 6) : ZIH l yL_hardness wsL_hardness (lkR rm 4 1 6) (zX ea mi sa) D T (S := Unit) ((o, .inr (6, vs)) :: wt) (fun _ => ((o, .inr (6, vs)) :: wt)) [.ref o, .int x0, .int x1] (-1000001) 1 6 := by
  refine z_inIHW (cc := cL_hardness) (maxL := 4) (hh := [(0, 6, 7, 16)]) (rt := .int) (by decide +kernel) rfl (Nat.le_of_ble_eq_true rfl) ?_
  intro p e s m args below meth c sl9 A Q Z hX htb hnm Mz9 hl9 hret
  have Z : zC p s m args c cL_hardness 4 RL wsL_hardness D T A := Z
  have hx := Z.1.1
  have hb := Z.1.2.1
  have hts := Z.1.2.2.2.2
  have hl9 : lv_has sl9 4 [(0, .ref o), (1, .int (x0)), (2, .int (x1))] := hl9
  obtain ⟨is9, hp1, hp2, hp3⟩ := mid_put4 [] ((o, .inr (6, vs)) :: wt)
  refine lv_aload_n hx hb dL_hardness_0 rfl (lv_at hl9 0 rfl) ?_
  refine lv_iload_n hx hb dL_hardness_1 rfl (lv_at hl9 1 rfl) ?_
  refine lv_iload_n hx hb dL_hardness_2 rfl (lv_at hl9 2 rfl) ?_
  refine z_callVx (As := [.int (x0), .int (x1)]) (rest := []) (wc := ((o, .inr (6, vs)) :: wt)) (zW_k ea mi sa) hX.1 Z Mz9 hM (cwV 2 hts gL_hardness_X5_hardness rfl hrm.1 hrm.2 (by decide +kernel) ⟨Nat.le_refl _, Nat.le_refl _⟩) is9 hp1 hp2 (va_recv Z.2.1 Mz9.1 (ci := 6) (q0 := 0) rfl rfl) rfl hl9.1 (Nat.le_of_ble_eq_true rfl) dL_hardness_3 ⟨Nat.le_of_ble_eq_true rfl, Nat.le_of_ble_eq_true rfl⟩ rfl (fun Hp9 lc9 q9 ce Mz9 hcell hv hcl => ?_)
  refine vx_catch (name := "java/lang/IndexOutOfBoundsException") Z.1.2.2.2.1 [] (⟨0, 6, 7, 16⟩ : ExceptionTableEntry) [] htb (fun z hz => absurd hz List.not_mem_nil) (by decide) (by decide) (hts (.classLink RL 16 "java/lang/IndexOutOfBoundsException") (by decide +kernel)) ((zWw hX.1 (w := .castable "java/lang/IndexOutOfBoundsException" "java/lang/IndexOutOfBoundsException") (by decide +kernel)).use rfl) hcell hv hcl ?_
  refine lv_astore_n (lv' := [(3, .ref q9), (0, .ref o), (1, .int (x0)), (2, .int (x1))]) hx hb dL_hardness_7 rfl hl9 (by decide) rfl (fun sl9 hl9 => ?_)
  refine lv_ldc (v := (-1000001)) hx hb Z.1.2.2.2.1 (hts (.constant RL 18 (-1000001)) (by decide +kernel)) dL_hardness_8 ?_
  exact hret _ _ _ _ _ sl9 _ _ () Mz9 rfl rfl rfl (Nat.le_of_ble_eq_true rfl) (Nat.le_of_ble_eq_true rfl) dL_hardness_10
set_option maxHeartbeats 4000000 in
set_option maxRecDepth 100000 in
theorem lk_test (l : Launch) (D : va_G) (T : Nat → ClassId) (ea mi : Nat) (sa : Nat → Nat) (o : Nat) (x0 : Int32) {vs : List Value} {wt : va_W} {rm : Room} {S : Type} {w' : S → va_W} {mc ms : Nat} {rv : Int32} (hM : ZIH l yX5_test wsX5_test rm (zW ea mi sa) D T (S := S) ((o, .inr (6, vs)) :: wt) w' [.ref o, .int x0] rv mc ms) (hrm : rm.cells = mc ∧ rm.slots = ms) (hf : ∀ (u : S) (j : Nat), j < ((o, .inr (6, vs)) :: wt).length → ((w' u).map Prod.fst)[j]? = (((o, .inr (6, vs)) :: wt).map Prod.fst)[j]?) (hlen : ∀ u : S, ((o, .inr (6, vs)) :: wt).length ≤ (w' u).length) : ZIH l yL_test wsL_test (lkR rm 3 mc ms) (zX ea mi sa) D T (S := S) ((o, .inr (6, vs)) :: wt) w' [.ref o, .int x0] rv mc ms := by
  refine z_inIHW (cc := cL_test) (maxL := 3) (hh := [(0, 5, 6, 16), (0, 5, 10, 26)]) (rt := .int) (by decide +kernel) rfl (Nat.le_of_ble_eq_true rfl) ?_
  intro p e s m args below meth c sl9 A Q Z hX htb hnm Mz9 hl9 hret
  have Z : zC p s m args c cL_test 3 RL wsL_test D T A := Z
  have hx := Z.1.1
  have hb := Z.1.2.1
  have hts := Z.1.2.2.2.2
  have hl9 : lv_has sl9 3 [(0, .ref o), (1, .int (x0))] := hl9
  obtain ⟨is9, hp1, hp2, hp3⟩ := mid_put4 [] ((o, .inr (6, vs)) :: wt)
  refine lv_aload_n hx hb dL_test_0 rfl (lv_at hl9 0 rfl) ?_
  refine lv_iload_n hx hb dL_test_1 rfl (lv_at hl9 1 rfl) ?_
  refine z_callViH (As := [.int (x0)]) (rest := []) (wc := ((o, .inr (6, vs)) :: wt)) (zW_k ea mi sa) hX.1 Z Mz9 hM (cwV 1 hts gL_test_X5_test rfl hrm.1 hrm.2 (by decide +kernel) ⟨Nat.le_refl _, Nat.le_refl _⟩) is9 hp1 hp2 hf hlen (va_recv Z.2.1 Mz9.1 (ci := 6) (q0 := 0) rfl rfl) rfl hl9.1 (Nat.le_of_ble_eq_true rfl) dL_test_2 ⟨Nat.le_of_eq (Nat.zero_add _), Nat.le_of_eq (Nat.zero_add _)⟩ rfl (fun u Hp9 lc9 Mz9 => ?_)
  have Mz9 : zM D A s.heap (w' u) _ _ := zM_w (hp3 _ (hlen u)) Mz9
  exact hret _ _ _ _ _ sl9 _ _ u Mz9 rfl (rfl) rfl (Nat.le_of_eq (Nat.zero_add _)) (Nat.le_of_eq (Nat.zero_add _)) dL_test_5
set_option maxHeartbeats 4000000 in
set_option maxRecDepth 100000 in
theorem lk_test_1 (l : Launch) (D : va_G) (T : Nat → ClassId) (ea mi : Nat) (sa : Nat → Nat) (o : Nat) (x0 : Int32) {vs : List Value} {wt : va_W} {rm : Room} (hM : ZB l yX5_test wsX5_test rm (zW ea mi sa) D T ((o, .inr (6, vs)) :: wt) [.ref o, .int x0] "java/lang/IndexOutOfBoundsException") (hrm : rm.cells = 1 ∧ rm.slots = 6) : ZIH l yL_test wsL_test (lkR rm 3 1 6) (zX ea mi sa) D T (S := Unit) ((o, .inr (6, vs)) :: wt) (fun _ => ((o, .inr (6, vs)) :: wt)) [.ref o, .int x0] (-1000001) 1 6 := by
  refine z_inIHW (cc := cL_test) (maxL := 3) (hh := [(0, 5, 6, 16), (0, 5, 10, 26)]) (rt := .int) (by decide +kernel) rfl (Nat.le_of_ble_eq_true rfl) ?_
  intro p e s m args below meth c sl9 A Q Z hX htb hnm Mz9 hl9 hret
  have Z : zC p s m args c cL_test 3 RL wsL_test D T A := Z
  have hx := Z.1.1
  have hb := Z.1.2.1
  have hts := Z.1.2.2.2.2
  have hl9 : lv_has sl9 3 [(0, .ref o), (1, .int (x0))] := hl9
  obtain ⟨is9, hp1, hp2, hp3⟩ := mid_put4 [] ((o, .inr (6, vs)) :: wt)
  refine lv_aload_n hx hb dL_test_0 rfl (lv_at hl9 0 rfl) ?_
  refine lv_iload_n hx hb dL_test_1 rfl (lv_at hl9 1 rfl) ?_
  refine z_callVx (As := [.int (x0)]) (rest := []) (wc := ((o, .inr (6, vs)) :: wt)) (zW_k ea mi sa) hX.1 Z Mz9 hM (cwV 1 hts gL_test_X5_test rfl hrm.1 hrm.2 (by decide +kernel) ⟨Nat.le_refl _, Nat.le_refl _⟩) is9 hp1 hp2 (va_recv Z.2.1 Mz9.1 (ci := 6) (q0 := 0) rfl rfl) rfl hl9.1 (Nat.le_of_ble_eq_true rfl) dL_test_2 ⟨Nat.le_of_ble_eq_true rfl, Nat.le_of_ble_eq_true rfl⟩ rfl (fun Hp9 lc9 q9 ce Mz9 hcell hv hcl => ?_)
  refine vx_catch (name := "java/lang/IndexOutOfBoundsException") Z.1.2.2.2.1 [] (⟨0, 5, 6, 16⟩ : ExceptionTableEntry) [(⟨0, 5, 10, 26⟩ : ExceptionTableEntry)] htb (fun z hz => absurd hz List.not_mem_nil) (by decide) (by decide) (hts (.classLink RL 16 "java/lang/IndexOutOfBoundsException") (by decide +kernel)) ((zWw hX.1 (w := .castable "java/lang/IndexOutOfBoundsException" "java/lang/IndexOutOfBoundsException") (by decide +kernel)).use rfl) hcell hv hcl ?_
  refine lv_astore_n (lv' := [(2, .ref q9), (0, .ref o), (1, .int (x0))]) hx hb dL_test_6 rfl hl9 (by decide) rfl (fun sl9 hl9 => ?_)
  refine lv_ldc (v := (-1000001)) hx hb Z.1.2.2.2.1 (hts (.constant RL 18 (-1000001)) (by decide +kernel)) dL_test_7 ?_
  exact hret _ _ _ _ _ sl9 _ _ () Mz9 rfl rfl rfl (Nat.le_of_ble_eq_true rfl) (Nat.le_of_ble_eq_true rfl) dL_test_9
set_option maxHeartbeats 4000000 in
set_option maxRecDepth 100000 in
theorem lk_test_2 (l : Launch) (D : va_G) (T : Nat → ClassId) (ea mi : Nat) (sa : Nat → Nat) (o : Nat) (x0 : Int32) {vs : List Value} {wt : va_W} {rm : Room} (hM : ZB l yX5_test wsX5_test rm (zW ea mi sa) D T ((o, .inr (6, vs)) :: wt) [.ref o, .int x0] "java/lang/IllegalStateException") (hrm : rm.cells = 1 ∧ rm.slots = 6) : ZIH l yL_test wsL_test (lkR rm 3 1 6) (zX ea mi sa) D T (S := Unit) ((o, .inr (6, vs)) :: wt) (fun _ => ((o, .inr (6, vs)) :: wt)) [.ref o, .int x0] (-1000003) 1 6 := by
  refine z_inIHW (cc := cL_test) (maxL := 3) (hh := [(0, 5, 6, 16), (0, 5, 10, 26)]) (rt := .int) (by decide +kernel) rfl (Nat.le_of_ble_eq_true rfl) ?_
  intro p e s m args below meth c sl9 A Q Z hX htb hnm Mz9 hl9 hret
  have Z : zC p s m args c cL_test 3 RL wsL_test D T A := Z
  have hx := Z.1.1
  have hb := Z.1.2.1
  have hts := Z.1.2.2.2.2
  have hl9 : lv_has sl9 3 [(0, .ref o), (1, .int (x0))] := hl9
  obtain ⟨is9, hp1, hp2, hp3⟩ := mid_put4 [] ((o, .inr (6, vs)) :: wt)
  refine lv_aload_n hx hb dL_test_0 rfl (lv_at hl9 0 rfl) ?_
  refine lv_iload_n hx hb dL_test_1 rfl (lv_at hl9 1 rfl) ?_
  refine z_callVx (As := [.int (x0)]) (rest := []) (wc := ((o, .inr (6, vs)) :: wt)) (zW_k ea mi sa) hX.1 Z Mz9 hM (cwV 1 hts gL_test_X5_test rfl hrm.1 hrm.2 (by decide +kernel) ⟨Nat.le_refl _, Nat.le_refl _⟩) is9 hp1 hp2 (va_recv Z.2.1 Mz9.1 (ci := 6) (q0 := 0) rfl rfl) rfl hl9.1 (Nat.le_of_ble_eq_true rfl) dL_test_2 ⟨Nat.le_of_ble_eq_true rfl, Nat.le_of_ble_eq_true rfl⟩ rfl (fun Hp9 lc9 q9 ce Mz9 hcell hv hcl => ?_)
  refine vx_catch (name := "java/lang/IllegalStateException") Z.1.2.2.2.1 [(⟨0, 5, 6, 16⟩ : ExceptionTableEntry)] (⟨0, 5, 10, 26⟩ : ExceptionTableEntry) [] htb (List.forall_mem_cons.mpr ⟨Or.inr ⟨by decide, "java/lang/IndexOutOfBoundsException", hts (.classLink RL 16 "java/lang/IndexOutOfBoundsException") (by decide +kernel), hX.2.2.1⟩, fun _ hz => absurd hz List.not_mem_nil⟩) (by decide) (by decide) (hts (.classLink RL 26 "java/lang/IllegalStateException") (by decide +kernel)) ((zWw hX.1 (w := .castable "java/lang/IllegalStateException" "java/lang/IllegalStateException") (by decide +kernel)).use rfl) hcell hv hcl ?_
  refine lv_astore_n (lv' := [(2, .ref q9), (0, .ref o), (1, .int (x0))]) hx hb dL_test_10 rfl hl9 (by decide) rfl (fun sl9 hl9 => ?_)
  refine lv_ldc (v := (-1000003)) hx hb Z.1.2.2.2.1 (hts (.constant RL 28 (-1000003)) (by decide +kernel)) dL_test_11 ?_
  exact hret _ _ _ _ _ sl9 _ _ () Mz9 rfl rfl rfl (Nat.le_of_ble_eq_true rfl) (Nat.le_of_ble_eq_true rfl) dL_test_13
set_option maxHeartbeats 4000000 in
set_option maxRecDepth 100000 in
theorem lk_paper (l : Launch) (D : va_G) (T : Nat → ClassId) (ea mi : Nat) (sa : Nat → Nat) (o : Nat) (x0 x1 : Int32) {vs : List Value} {wt : va_W} {rm : Room} {S : Type} {w' : S → va_W} {mc ms : Nat} {rv : Int32} (hM : ZIH l yX5_paper wsX5_paper rm (zW ea mi sa) D T (S := S) ((o, .inr (6, vs)) :: wt) w' [.ref o, .int x0, .int x1] rv mc ms) (hrm : rm.cells = mc ∧ rm.slots = ms) (hf : ∀ (u : S) (j : Nat), j < ((o, .inr (6, vs)) :: wt).length → ((w' u).map Prod.fst)[j]? = (((o, .inr (6, vs)) :: wt).map Prod.fst)[j]?) (hlen : ∀ u : S, ((o, .inr (6, vs)) :: wt).length ≤ (w' u).length) : ZIH l yL_paper wsL_paper (lkR rm 5 mc ms) (zX ea mi sa) D T (S := S) ((o, .inr (6, vs)) :: wt) w' [.ref o, .int x0, .int x1] rv mc ms := by
  refine z_inIHW (cc := cL_paper) (maxL := 4) (hh := [(0, 6, 7, 16), (0, 6, 11, 19)]) (rt := .int) (by decide +kernel) rfl (Nat.le_of_ble_eq_true rfl) ?_
  intro p e s m args below meth c sl9 A Q Z hX htb hnm Mz9 hl9 hret
  have Z : zC p s m args c cL_paper 4 RL wsL_paper D T A := Z
  have hx := Z.1.1
  have hb := Z.1.2.1
  have hts := Z.1.2.2.2.2
  have hl9 : lv_has sl9 4 [(0, .ref o), (1, .int (x0)), (2, .int (x1))] := hl9
  obtain ⟨is9, hp1, hp2, hp3⟩ := mid_put4 [] ((o, .inr (6, vs)) :: wt)
  refine lv_aload_n hx hb dL_paper_0 rfl (lv_at hl9 0 rfl) ?_
  refine lv_iload_n hx hb dL_paper_1 rfl (lv_at hl9 1 rfl) ?_
  refine lv_iload_n hx hb dL_paper_2 rfl (lv_at hl9 2 rfl) ?_
  refine z_callViH (As := [.int (x0), .int (x1)]) (rest := []) (wc := ((o, .inr (6, vs)) :: wt)) (zW_k ea mi sa) hX.1 Z Mz9 hM (cwV 2 hts gL_paper_X5_paper rfl hrm.1 hrm.2 (by decide +kernel) ⟨Nat.le_refl _, Nat.le_refl _⟩) is9 hp1 hp2 hf hlen (va_recv Z.2.1 Mz9.1 (ci := 6) (q0 := 0) rfl rfl) rfl hl9.1 (Nat.le_of_ble_eq_true rfl) dL_paper_3 ⟨Nat.le_of_eq (Nat.zero_add _), Nat.le_of_eq (Nat.zero_add _)⟩ rfl (fun u Hp9 lc9 Mz9 => ?_)
  have Mz9 : zM D A s.heap (w' u) _ _ := zM_w (hp3 _ (hlen u)) Mz9
  exact hret _ _ _ _ _ sl9 _ _ u Mz9 rfl (rfl) rfl (Nat.le_of_eq (Nat.zero_add _)) (Nat.le_of_eq (Nat.zero_add _)) dL_paper_6
set_option maxHeartbeats 4000000 in
set_option maxRecDepth 100000 in
theorem lk_paper_1 (l : Launch) (D : va_G) (T : Nat → ClassId) (ea mi : Nat) (sa : Nat → Nat) (o : Nat) (x0 x1 : Int32) {vs : List Value} {wt : va_W} {rm : Room} (hM : ZB l yX5_paper wsX5_paper rm (zW ea mi sa) D T ((o, .inr (6, vs)) :: wt) [.ref o, .int x0, .int x1] "java/lang/IndexOutOfBoundsException") (hrm : rm.cells = 1 ∧ rm.slots = 6) : ZIH l yL_paper wsL_paper (lkR rm 5 1 6) (zX ea mi sa) D T (S := Unit) ((o, .inr (6, vs)) :: wt) (fun _ => ((o, .inr (6, vs)) :: wt)) [.ref o, .int x0, .int x1] (-1000001) 1 6 := by
  refine z_inIHW (cc := cL_paper) (maxL := 4) (hh := [(0, 6, 7, 16), (0, 6, 11, 19)]) (rt := .int) (by decide +kernel) rfl (Nat.le_of_ble_eq_true rfl) ?_
  intro p e s m args below meth c sl9 A Q Z hX htb hnm Mz9 hl9 hret
  have Z : zC p s m args c cL_paper 4 RL wsL_paper D T A := Z
  have hx := Z.1.1
  have hb := Z.1.2.1
  have hts := Z.1.2.2.2.2
  have hl9 : lv_has sl9 4 [(0, .ref o), (1, .int (x0)), (2, .int (x1))] := hl9
  obtain ⟨is9, hp1, hp2, hp3⟩ := mid_put4 [] ((o, .inr (6, vs)) :: wt)
  refine lv_aload_n hx hb dL_paper_0 rfl (lv_at hl9 0 rfl) ?_
  refine lv_iload_n hx hb dL_paper_1 rfl (lv_at hl9 1 rfl) ?_
  refine lv_iload_n hx hb dL_paper_2 rfl (lv_at hl9 2 rfl) ?_
  refine z_callVx (As := [.int (x0), .int (x1)]) (rest := []) (wc := ((o, .inr (6, vs)) :: wt)) (zW_k ea mi sa) hX.1 Z Mz9 hM (cwV 2 hts gL_paper_X5_paper rfl hrm.1 hrm.2 (by decide +kernel) ⟨Nat.le_refl _, Nat.le_refl _⟩) is9 hp1 hp2 (va_recv Z.2.1 Mz9.1 (ci := 6) (q0 := 0) rfl rfl) rfl hl9.1 (Nat.le_of_ble_eq_true rfl) dL_paper_3 ⟨Nat.le_of_ble_eq_true rfl, Nat.le_of_ble_eq_true rfl⟩ rfl (fun Hp9 lc9 q9 ce Mz9 hcell hv hcl => ?_)
  refine vx_catch (name := "java/lang/IndexOutOfBoundsException") Z.1.2.2.2.1 [] (⟨0, 6, 7, 16⟩ : ExceptionTableEntry) [(⟨0, 6, 11, 19⟩ : ExceptionTableEntry)] htb (fun z hz => absurd hz List.not_mem_nil) (by decide) (by decide) (hts (.classLink RL 16 "java/lang/IndexOutOfBoundsException") (by decide +kernel)) ((zWw hX.1 (w := .castable "java/lang/IndexOutOfBoundsException" "java/lang/IndexOutOfBoundsException") (by decide +kernel)).use rfl) hcell hv hcl ?_
  refine lv_astore_n (lv' := [(3, .ref q9), (0, .ref o), (1, .int (x0)), (2, .int (x1))]) hx hb dL_paper_7 rfl hl9 (by decide) rfl (fun sl9 hl9 => ?_)
  refine lv_ldc (v := (-1000001)) hx hb Z.1.2.2.2.1 (hts (.constant RL 18 (-1000001)) (by decide +kernel)) dL_paper_8 ?_
  exact hret _ _ _ _ _ sl9 _ _ () Mz9 rfl rfl rfl (Nat.le_of_ble_eq_true rfl) (Nat.le_of_ble_eq_true rfl) dL_paper_10
set_option maxHeartbeats 4000000 in
set_option maxRecDepth 100000 in
theorem lk_paper_2 (l : Launch) (D : va_G) (T : Nat → ClassId) (ea mi : Nat) (sa : Nat → Nat) (o : Nat) (x0 x1 : Int32) {vs : List Value} {wt : va_W} {rm : Room} (hM : ZB l yX5_paper wsX5_paper rm (zW ea mi sa) D T ((o, .inr (6, vs)) :: wt) [.ref o, .int x0, .int x1] "java/lang/IllegalArgumentException") (hrm : rm.cells = 1 ∧ rm.slots = 6) : ZIH l yL_paper wsL_paper (lkR rm 5 1 6) (zX ea mi sa) D T (S := Unit) ((o, .inr (6, vs)) :: wt) (fun _ => ((o, .inr (6, vs)) :: wt)) [.ref o, .int x0, .int x1] (-1000002) 1 6 := by
  refine z_inIHW (cc := cL_paper) (maxL := 4) (hh := [(0, 6, 7, 16), (0, 6, 11, 19)]) (rt := .int) (by decide +kernel) rfl (Nat.le_of_ble_eq_true rfl) ?_
  intro p e s m args below meth c sl9 A Q Z hX htb hnm Mz9 hl9 hret
  have Z : zC p s m args c cL_paper 4 RL wsL_paper D T A := Z
  have hx := Z.1.1
  have hb := Z.1.2.1
  have hts := Z.1.2.2.2.2
  have hl9 : lv_has sl9 4 [(0, .ref o), (1, .int (x0)), (2, .int (x1))] := hl9
  obtain ⟨is9, hp1, hp2, hp3⟩ := mid_put4 [] ((o, .inr (6, vs)) :: wt)
  refine lv_aload_n hx hb dL_paper_0 rfl (lv_at hl9 0 rfl) ?_
  refine lv_iload_n hx hb dL_paper_1 rfl (lv_at hl9 1 rfl) ?_
  refine lv_iload_n hx hb dL_paper_2 rfl (lv_at hl9 2 rfl) ?_
  refine z_callVx (As := [.int (x0), .int (x1)]) (rest := []) (wc := ((o, .inr (6, vs)) :: wt)) (zW_k ea mi sa) hX.1 Z Mz9 hM (cwV 2 hts gL_paper_X5_paper rfl hrm.1 hrm.2 (by decide +kernel) ⟨Nat.le_refl _, Nat.le_refl _⟩) is9 hp1 hp2 (va_recv Z.2.1 Mz9.1 (ci := 6) (q0 := 0) rfl rfl) rfl hl9.1 (Nat.le_of_ble_eq_true rfl) dL_paper_3 ⟨Nat.le_of_ble_eq_true rfl, Nat.le_of_ble_eq_true rfl⟩ rfl (fun Hp9 lc9 q9 ce Mz9 hcell hv hcl => ?_)
  refine vx_catch (name := "java/lang/IllegalArgumentException") Z.1.2.2.2.1 [(⟨0, 6, 7, 16⟩ : ExceptionTableEntry)] (⟨0, 6, 11, 19⟩ : ExceptionTableEntry) [] htb (List.forall_mem_cons.mpr ⟨Or.inr ⟨by decide, "java/lang/IndexOutOfBoundsException", hts (.classLink RL 16 "java/lang/IndexOutOfBoundsException") (by decide +kernel), hX.2.1⟩, fun _ hz => absurd hz List.not_mem_nil⟩) (by decide) (by decide) (hts (.classLink RL 19 "java/lang/IllegalArgumentException") (by decide +kernel)) ((zWw hX.1 (w := .castable "java/lang/IllegalArgumentException" "java/lang/IllegalArgumentException") (by decide +kernel)).use rfl) hcell hv hcl ?_
  refine lv_astore_n (lv' := [(3, .ref q9), (0, .ref o), (1, .int (x0)), (2, .int (x1))]) hx hb dL_paper_11 rfl hl9 (by decide) rfl (fun sl9 hl9 => ?_)
  refine lv_ldc (v := (-1000002)) hx hb Z.1.2.2.2.1 (hts (.constant RL 21 (-1000002)) (by decide +kernel)) dL_paper_12 ?_
  exact hret _ _ _ _ _ sl9 _ _ () Mz9 rfl rfl rfl (Nat.le_of_ble_eq_true rfl) (Nat.le_of_ble_eq_true rfl) dL_paper_14
set_option maxHeartbeats 4000000 in
set_option maxRecDepth 100000 in
theorem lk_layer (l : Launch) (D : va_G) (T : Nat → ClassId) (ea mi : Nat) (sa : Nat → Nat) (o : Nat) (x0 x1 : Int32) {vs : List Value} {wt : va_W} {rm : Room} {S : Type} {w' : S → va_W} {mc ms : Nat} {rv : Int32} (hM : ZIH l yX5_layer wsX5_layer rm (zW ea mi sa) D T (S := S) ((o, .inr (6, vs)) :: wt) w' [.ref o, .int x0, .int x1] rv mc ms) (hrm : rm.cells = mc ∧ rm.slots = ms) (hf : ∀ (u : S) (j : Nat), j < ((o, .inr (6, vs)) :: wt).length → ((w' u).map Prod.fst)[j]? = (((o, .inr (6, vs)) :: wt).map Prod.fst)[j]?) (hlen : ∀ u : S, ((o, .inr (6, vs)) :: wt).length ≤ (w' u).length) : ZIH l yL_layer wsL_layer (lkR rm 4 mc ms) (zX ea mi sa) D T (S := S) ((o, .inr (6, vs)) :: wt) w' [.ref o, .int x0, .int x1] rv mc ms := by
  refine z_inIHW (cc := cL_layer) (maxL := 4) (hh := [(0, 6, 7, 16), (0, 6, 11, 19), (0, 6, 15, 26)]) (rt := .int) (by decide +kernel) rfl (Nat.le_of_ble_eq_true rfl) ?_
  intro p e s m args below meth c sl9 A Q Z hX htb hnm Mz9 hl9 hret
  have Z : zC p s m args c cL_layer 4 RL wsL_layer D T A := Z
  have hx := Z.1.1
  have hb := Z.1.2.1
  have hts := Z.1.2.2.2.2
  have hl9 : lv_has sl9 4 [(0, .ref o), (1, .int (x0)), (2, .int (x1))] := hl9
  obtain ⟨is9, hp1, hp2, hp3⟩ := mid_put4 [] ((o, .inr (6, vs)) :: wt)
  refine lv_aload_n hx hb dL_layer_0 rfl (lv_at hl9 0 rfl) ?_
  refine lv_iload_n hx hb dL_layer_1 rfl (lv_at hl9 1 rfl) ?_
  refine lv_iload_n hx hb dL_layer_2 rfl (lv_at hl9 2 rfl) ?_
  refine z_callViH (As := [.int (x0), .int (x1)]) (rest := []) (wc := ((o, .inr (6, vs)) :: wt)) (zW_k ea mi sa) hX.1 Z Mz9 hM (cwV 2 hts gL_layer_X5_layer rfl hrm.1 hrm.2 (by decide +kernel) ⟨Nat.le_refl _, Nat.le_refl _⟩) is9 hp1 hp2 hf hlen (va_recv Z.2.1 Mz9.1 (ci := 6) (q0 := 0) rfl rfl) rfl hl9.1 (Nat.le_of_ble_eq_true rfl) dL_layer_3 ⟨Nat.le_of_eq (Nat.zero_add _), Nat.le_of_eq (Nat.zero_add _)⟩ rfl (fun u Hp9 lc9 Mz9 => ?_)
  have Mz9 : zM D A s.heap (w' u) _ _ := zM_w (hp3 _ (hlen u)) Mz9
  exact hret _ _ _ _ _ sl9 _ _ u Mz9 rfl (rfl) rfl (Nat.le_of_eq (Nat.zero_add _)) (Nat.le_of_eq (Nat.zero_add _)) dL_layer_6
set_option maxHeartbeats 4000000 in
set_option maxRecDepth 100000 in
theorem lk_layer_1 (l : Launch) (D : va_G) (T : Nat → ClassId) (ea mi : Nat) (sa : Nat → Nat) (o : Nat) (x0 x1 : Int32) {vs : List Value} {wt : va_W} {rm : Room} (hM : ZB l yX5_layer wsX5_layer rm (zW ea mi sa) D T ((o, .inr (6, vs)) :: wt) [.ref o, .int x0, .int x1] "java/lang/IndexOutOfBoundsException") (hrm : rm.cells = 1 ∧ rm.slots = 6) : ZIH l yL_layer wsL_layer (lkR rm 4 1 6) (zX ea mi sa) D T (S := Unit) ((o, .inr (6, vs)) :: wt) (fun _ => ((o, .inr (6, vs)) :: wt)) [.ref o, .int x0, .int x1] (-1000001) 1 6 := by
  refine z_inIHW (cc := cL_layer) (maxL := 4) (hh := [(0, 6, 7, 16), (0, 6, 11, 19), (0, 6, 15, 26)]) (rt := .int) (by decide +kernel) rfl (Nat.le_of_ble_eq_true rfl) ?_
  intro p e s m args below meth c sl9 A Q Z hX htb hnm Mz9 hl9 hret
  have Z : zC p s m args c cL_layer 4 RL wsL_layer D T A := Z
  have hx := Z.1.1
  have hb := Z.1.2.1
  have hts := Z.1.2.2.2.2
  have hl9 : lv_has sl9 4 [(0, .ref o), (1, .int (x0)), (2, .int (x1))] := hl9
  obtain ⟨is9, hp1, hp2, hp3⟩ := mid_put4 [] ((o, .inr (6, vs)) :: wt)
  refine lv_aload_n hx hb dL_layer_0 rfl (lv_at hl9 0 rfl) ?_
  refine lv_iload_n hx hb dL_layer_1 rfl (lv_at hl9 1 rfl) ?_
  refine lv_iload_n hx hb dL_layer_2 rfl (lv_at hl9 2 rfl) ?_
  refine z_callVx (As := [.int (x0), .int (x1)]) (rest := []) (wc := ((o, .inr (6, vs)) :: wt)) (zW_k ea mi sa) hX.1 Z Mz9 hM (cwV 2 hts gL_layer_X5_layer rfl hrm.1 hrm.2 (by decide +kernel) ⟨Nat.le_refl _, Nat.le_refl _⟩) is9 hp1 hp2 (va_recv Z.2.1 Mz9.1 (ci := 6) (q0 := 0) rfl rfl) rfl hl9.1 (Nat.le_of_ble_eq_true rfl) dL_layer_3 ⟨Nat.le_of_ble_eq_true rfl, Nat.le_of_ble_eq_true rfl⟩ rfl (fun Hp9 lc9 q9 ce Mz9 hcell hv hcl => ?_)
  refine vx_catch (name := "java/lang/IndexOutOfBoundsException") Z.1.2.2.2.1 [] (⟨0, 6, 7, 16⟩ : ExceptionTableEntry) [(⟨0, 6, 11, 19⟩ : ExceptionTableEntry), (⟨0, 6, 15, 26⟩ : ExceptionTableEntry)] htb (fun z hz => absurd hz List.not_mem_nil) (by decide) (by decide) (hts (.classLink RL 16 "java/lang/IndexOutOfBoundsException") (by decide +kernel)) ((zWw hX.1 (w := .castable "java/lang/IndexOutOfBoundsException" "java/lang/IndexOutOfBoundsException") (by decide +kernel)).use rfl) hcell hv hcl ?_
  refine lv_astore_n (lv' := [(3, .ref q9), (0, .ref o), (1, .int (x0)), (2, .int (x1))]) hx hb dL_layer_7 rfl hl9 (by decide) rfl (fun sl9 hl9 => ?_)
  refine lv_ldc (v := (-1000001)) hx hb Z.1.2.2.2.1 (hts (.constant RL 18 (-1000001)) (by decide +kernel)) dL_layer_8 ?_
  exact hret _ _ _ _ _ sl9 _ _ () Mz9 rfl rfl rfl (Nat.le_of_ble_eq_true rfl) (Nat.le_of_ble_eq_true rfl) dL_layer_10
set_option maxHeartbeats 4000000 in
set_option maxRecDepth 100000 in
theorem lk_layer_2 (l : Launch) (D : va_G) (T : Nat → ClassId) (ea mi : Nat) (sa : Nat → Nat) (o : Nat) (x0 x1 : Int32) {vs : List Value} {wt : va_W} {rm : Room} (hM : ZB l yX5_layer wsX5_layer rm (zW ea mi sa) D T ((o, .inr (6, vs)) :: wt) [.ref o, .int x0, .int x1] "java/lang/IllegalArgumentException") (hrm : rm.cells = 1 ∧ rm.slots = 6) : ZIH l yL_layer wsL_layer (lkR rm 4 1 6) (zX ea mi sa) D T (S := Unit) ((o, .inr (6, vs)) :: wt) (fun _ => ((o, .inr (6, vs)) :: wt)) [.ref o, .int x0, .int x1] (-1000002) 1 6 := by
  refine z_inIHW (cc := cL_layer) (maxL := 4) (hh := [(0, 6, 7, 16), (0, 6, 11, 19), (0, 6, 15, 26)]) (rt := .int) (by decide +kernel) rfl (Nat.le_of_ble_eq_true rfl) ?_
  intro p e s m args below meth c sl9 A Q Z hX htb hnm Mz9 hl9 hret
  have Z : zC p s m args c cL_layer 4 RL wsL_layer D T A := Z
  have hx := Z.1.1
  have hb := Z.1.2.1
  have hts := Z.1.2.2.2.2
  have hl9 : lv_has sl9 4 [(0, .ref o), (1, .int (x0)), (2, .int (x1))] := hl9
  obtain ⟨is9, hp1, hp2, hp3⟩ := mid_put4 [] ((o, .inr (6, vs)) :: wt)
  refine lv_aload_n hx hb dL_layer_0 rfl (lv_at hl9 0 rfl) ?_
  refine lv_iload_n hx hb dL_layer_1 rfl (lv_at hl9 1 rfl) ?_
  refine lv_iload_n hx hb dL_layer_2 rfl (lv_at hl9 2 rfl) ?_
  refine z_callVx (As := [.int (x0), .int (x1)]) (rest := []) (wc := ((o, .inr (6, vs)) :: wt)) (zW_k ea mi sa) hX.1 Z Mz9 hM (cwV 2 hts gL_layer_X5_layer rfl hrm.1 hrm.2 (by decide +kernel) ⟨Nat.le_refl _, Nat.le_refl _⟩) is9 hp1 hp2 (va_recv Z.2.1 Mz9.1 (ci := 6) (q0 := 0) rfl rfl) rfl hl9.1 (Nat.le_of_ble_eq_true rfl) dL_layer_3 ⟨Nat.le_of_ble_eq_true rfl, Nat.le_of_ble_eq_true rfl⟩ rfl (fun Hp9 lc9 q9 ce Mz9 hcell hv hcl => ?_)
  refine vx_catch (name := "java/lang/IllegalArgumentException") Z.1.2.2.2.1 [(⟨0, 6, 7, 16⟩ : ExceptionTableEntry)] (⟨0, 6, 11, 19⟩ : ExceptionTableEntry) [(⟨0, 6, 15, 26⟩ : ExceptionTableEntry)] htb (List.forall_mem_cons.mpr ⟨Or.inr ⟨by decide, "java/lang/IndexOutOfBoundsException", hts (.classLink RL 16 "java/lang/IndexOutOfBoundsException") (by decide +kernel), hX.2.1⟩, fun _ hz => absurd hz List.not_mem_nil⟩) (by decide) (by decide) (hts (.classLink RL 19 "java/lang/IllegalArgumentException") (by decide +kernel)) ((zWw hX.1 (w := .castable "java/lang/IllegalArgumentException" "java/lang/IllegalArgumentException") (by decide +kernel)).use rfl) hcell hv hcl ?_
  refine lv_astore_n (lv' := [(3, .ref q9), (0, .ref o), (1, .int (x0)), (2, .int (x1))]) hx hb dL_layer_11 rfl hl9 (by decide) rfl (fun sl9 hl9 => ?_)
  refine lv_ldc (v := (-1000002)) hx hb Z.1.2.2.2.1 (hts (.constant RL 21 (-1000002)) (by decide +kernel)) dL_layer_12 ?_
  exact hret _ _ _ _ _ sl9 _ _ () Mz9 rfl rfl rfl (Nat.le_of_ble_eq_true rfl) (Nat.le_of_ble_eq_true rfl) dL_layer_14
set_option maxHeartbeats 4000000 in
set_option maxRecDepth 100000 in
theorem lk_layer_3 (l : Launch) (D : va_G) (T : Nat → ClassId) (ea mi : Nat) (sa : Nat → Nat) (o : Nat) (x0 x1 : Int32) {vs : List Value} {wt : va_W} {rm : Room} (hM : ZB l yX5_layer wsX5_layer rm (zW ea mi sa) D T ((o, .inr (6, vs)) :: wt) [.ref o, .int x0, .int x1] "java/lang/IllegalStateException") (hrm : rm.cells = 1 ∧ rm.slots = 6) : ZIH l yL_layer wsL_layer (lkR rm 4 1 6) (zX ea mi sa) D T (S := Unit) ((o, .inr (6, vs)) :: wt) (fun _ => ((o, .inr (6, vs)) :: wt)) [.ref o, .int x0, .int x1] (-1000003) 1 6 := by
  refine z_inIHW (cc := cL_layer) (maxL := 4) (hh := [(0, 6, 7, 16), (0, 6, 11, 19), (0, 6, 15, 26)]) (rt := .int) (by decide +kernel) rfl (Nat.le_of_ble_eq_true rfl) ?_
  intro p e s m args below meth c sl9 A Q Z hX htb hnm Mz9 hl9 hret
  have Z : zC p s m args c cL_layer 4 RL wsL_layer D T A := Z
  have hx := Z.1.1
  have hb := Z.1.2.1
  have hts := Z.1.2.2.2.2
  have hl9 : lv_has sl9 4 [(0, .ref o), (1, .int (x0)), (2, .int (x1))] := hl9
  obtain ⟨is9, hp1, hp2, hp3⟩ := mid_put4 [] ((o, .inr (6, vs)) :: wt)
  refine lv_aload_n hx hb dL_layer_0 rfl (lv_at hl9 0 rfl) ?_
  refine lv_iload_n hx hb dL_layer_1 rfl (lv_at hl9 1 rfl) ?_
  refine lv_iload_n hx hb dL_layer_2 rfl (lv_at hl9 2 rfl) ?_
  refine z_callVx (As := [.int (x0), .int (x1)]) (rest := []) (wc := ((o, .inr (6, vs)) :: wt)) (zW_k ea mi sa) hX.1 Z Mz9 hM (cwV 2 hts gL_layer_X5_layer rfl hrm.1 hrm.2 (by decide +kernel) ⟨Nat.le_refl _, Nat.le_refl _⟩) is9 hp1 hp2 (va_recv Z.2.1 Mz9.1 (ci := 6) (q0 := 0) rfl rfl) rfl hl9.1 (Nat.le_of_ble_eq_true rfl) dL_layer_3 ⟨Nat.le_of_ble_eq_true rfl, Nat.le_of_ble_eq_true rfl⟩ rfl (fun Hp9 lc9 q9 ce Mz9 hcell hv hcl => ?_)
  refine vx_catch (name := "java/lang/IllegalStateException") Z.1.2.2.2.1 [(⟨0, 6, 7, 16⟩ : ExceptionTableEntry), (⟨0, 6, 11, 19⟩ : ExceptionTableEntry)] (⟨0, 6, 15, 26⟩ : ExceptionTableEntry) [] htb (List.forall_mem_cons.mpr ⟨Or.inr ⟨by decide, "java/lang/IndexOutOfBoundsException", hts (.classLink RL 16 "java/lang/IndexOutOfBoundsException") (by decide +kernel), hX.2.2.1⟩, List.forall_mem_cons.mpr ⟨Or.inr ⟨by decide, "java/lang/IllegalArgumentException", hts (.classLink RL 19 "java/lang/IllegalArgumentException") (by decide +kernel), hX.2.2.2⟩, fun _ hz => absurd hz List.not_mem_nil⟩⟩) (by decide) (by decide) (hts (.classLink RL 26 "java/lang/IllegalStateException") (by decide +kernel)) ((zWw hX.1 (w := .castable "java/lang/IllegalStateException" "java/lang/IllegalStateException") (by decide +kernel)).use rfl) hcell hv hcl ?_
  refine lv_astore_n (lv' := [(3, .ref q9), (0, .ref o), (1, .int (x0)), (2, .int (x1))]) hx hb dL_layer_15 rfl hl9 (by decide) rfl (fun sl9 hl9 => ?_)
  refine lv_ldc (v := (-1000003)) hx hb Z.1.2.2.2.1 (hts (.constant RL 28 (-1000003)) (by decide +kernel)) dL_layer_16 ?_
  exact hret _ _ _ _ _ sl9 _ _ () Mz9 rfl rfl rfl (Nat.le_of_ble_eq_true rfl) (Nat.le_of_ble_eq_true rfl) dL_layer_18
set_option maxHeartbeats 4000000 in
set_option maxRecDepth 100000 in
theorem lk_fewest (l : Launch) (D : va_G) (T : Nat → ClassId) (ea mi : Nat) (sa : Nat → Nat) (o : Nat) (x0 x1 : Int32) {vs : List Value} {wt : va_W} {rm : Room} {S : Type} {w' : S → va_W} {mc ms : Nat} {rv : Int32} (hM : ZIH l yX5_fewest wsX5_fewest rm (zW ea mi sa) D T (S := S) ((o, .inr (6, vs)) :: wt) w' [.ref o, .int x0, .int x1] rv mc ms) (hrm : rm.cells = mc ∧ rm.slots = ms) (hf : ∀ (u : S) (j : Nat), j < ((o, .inr (6, vs)) :: wt).length → ((w' u).map Prod.fst)[j]? = (((o, .inr (6, vs)) :: wt).map Prod.fst)[j]?) (hlen : ∀ u : S, ((o, .inr (6, vs)) :: wt).length ≤ (w' u).length) : ZIH l yL_fewest wsL_fewest (lkR rm 4 mc ms) (zX ea mi sa) D T (S := S) ((o, .inr (6, vs)) :: wt) w' [.ref o, .int x0, .int x1] rv mc ms := by
  refine z_inIHW (cc := cL_fewest) (maxL := 4) (hh := [(0, 6, 7, 16), (0, 6, 11, 19)]) (rt := .int) (by decide +kernel) rfl (Nat.le_of_ble_eq_true rfl) ?_
  intro p e s m args below meth c sl9 A Q Z hX htb hnm Mz9 hl9 hret
  have Z : zC p s m args c cL_fewest 4 RL wsL_fewest D T A := Z
  have hx := Z.1.1
  have hb := Z.1.2.1
  have hts := Z.1.2.2.2.2
  have hl9 : lv_has sl9 4 [(0, .ref o), (1, .int (x0)), (2, .int (x1))] := hl9
  obtain ⟨is9, hp1, hp2, hp3⟩ := mid_put4 [] ((o, .inr (6, vs)) :: wt)
  refine lv_aload_n hx hb dL_fewest_0 rfl (lv_at hl9 0 rfl) ?_
  refine lv_iload_n hx hb dL_fewest_1 rfl (lv_at hl9 1 rfl) ?_
  refine lv_iload_n hx hb dL_fewest_2 rfl (lv_at hl9 2 rfl) ?_
  refine z_callViH (As := [.int (x0), .int (x1)]) (rest := []) (wc := ((o, .inr (6, vs)) :: wt)) (zW_k ea mi sa) hX.1 Z Mz9 hM (cwV 2 hts gL_fewest_X5_fewest rfl hrm.1 hrm.2 (by decide +kernel) ⟨Nat.le_refl _, Nat.le_refl _⟩) is9 hp1 hp2 hf hlen (va_recv Z.2.1 Mz9.1 (ci := 6) (q0 := 0) rfl rfl) rfl hl9.1 (Nat.le_of_ble_eq_true rfl) dL_fewest_3 ⟨Nat.le_of_eq (Nat.zero_add _), Nat.le_of_eq (Nat.zero_add _)⟩ rfl (fun u Hp9 lc9 Mz9 => ?_)
  have Mz9 : zM D A s.heap (w' u) _ _ := zM_w (hp3 _ (hlen u)) Mz9
  exact hret _ _ _ _ _ sl9 _ _ u Mz9 rfl (rfl) rfl (Nat.le_of_eq (Nat.zero_add _)) (Nat.le_of_eq (Nat.zero_add _)) dL_fewest_6
set_option maxHeartbeats 4000000 in
set_option maxRecDepth 100000 in
theorem lk_fewest_1 (l : Launch) (D : va_G) (T : Nat → ClassId) (ea mi : Nat) (sa : Nat → Nat) (o : Nat) (x0 x1 : Int32) {vs : List Value} {wt : va_W} {rm : Room} (hM : ZB l yX5_fewest wsX5_fewest rm (zW ea mi sa) D T ((o, .inr (6, vs)) :: wt) [.ref o, .int x0, .int x1] "java/lang/IndexOutOfBoundsException") (hrm : rm.cells = 1 ∧ rm.slots = 6) : ZIH l yL_fewest wsL_fewest (lkR rm 4 1 6) (zX ea mi sa) D T (S := Unit) ((o, .inr (6, vs)) :: wt) (fun _ => ((o, .inr (6, vs)) :: wt)) [.ref o, .int x0, .int x1] (-1000001) 1 6 := by
  refine z_inIHW (cc := cL_fewest) (maxL := 4) (hh := [(0, 6, 7, 16), (0, 6, 11, 19)]) (rt := .int) (by decide +kernel) rfl (Nat.le_of_ble_eq_true rfl) ?_
  intro p e s m args below meth c sl9 A Q Z hX htb hnm Mz9 hl9 hret
  have Z : zC p s m args c cL_fewest 4 RL wsL_fewest D T A := Z
  have hx := Z.1.1
  have hb := Z.1.2.1
  have hts := Z.1.2.2.2.2
  have hl9 : lv_has sl9 4 [(0, .ref o), (1, .int (x0)), (2, .int (x1))] := hl9
  obtain ⟨is9, hp1, hp2, hp3⟩ := mid_put4 [] ((o, .inr (6, vs)) :: wt)
  refine lv_aload_n hx hb dL_fewest_0 rfl (lv_at hl9 0 rfl) ?_
  refine lv_iload_n hx hb dL_fewest_1 rfl (lv_at hl9 1 rfl) ?_
  refine lv_iload_n hx hb dL_fewest_2 rfl (lv_at hl9 2 rfl) ?_
  refine z_callVx (As := [.int (x0), .int (x1)]) (rest := []) (wc := ((o, .inr (6, vs)) :: wt)) (zW_k ea mi sa) hX.1 Z Mz9 hM (cwV 2 hts gL_fewest_X5_fewest rfl hrm.1 hrm.2 (by decide +kernel) ⟨Nat.le_refl _, Nat.le_refl _⟩) is9 hp1 hp2 (va_recv Z.2.1 Mz9.1 (ci := 6) (q0 := 0) rfl rfl) rfl hl9.1 (Nat.le_of_ble_eq_true rfl) dL_fewest_3 ⟨Nat.le_of_ble_eq_true rfl, Nat.le_of_ble_eq_true rfl⟩ rfl (fun Hp9 lc9 q9 ce Mz9 hcell hv hcl => ?_)
  refine vx_catch (name := "java/lang/IndexOutOfBoundsException") Z.1.2.2.2.1 [] (⟨0, 6, 7, 16⟩ : ExceptionTableEntry) [(⟨0, 6, 11, 19⟩ : ExceptionTableEntry)] htb (fun z hz => absurd hz List.not_mem_nil) (by decide) (by decide) (hts (.classLink RL 16 "java/lang/IndexOutOfBoundsException") (by decide +kernel)) ((zWw hX.1 (w := .castable "java/lang/IndexOutOfBoundsException" "java/lang/IndexOutOfBoundsException") (by decide +kernel)).use rfl) hcell hv hcl ?_
  refine lv_astore_n (lv' := [(3, .ref q9), (0, .ref o), (1, .int (x0)), (2, .int (x1))]) hx hb dL_fewest_7 rfl hl9 (by decide) rfl (fun sl9 hl9 => ?_)
  refine lv_ldc (v := (-1000001)) hx hb Z.1.2.2.2.1 (hts (.constant RL 18 (-1000001)) (by decide +kernel)) dL_fewest_8 ?_
  exact hret _ _ _ _ _ sl9 _ _ () Mz9 rfl rfl rfl (Nat.le_of_ble_eq_true rfl) (Nat.le_of_ble_eq_true rfl) dL_fewest_10
set_option maxHeartbeats 4000000 in
set_option maxRecDepth 100000 in
theorem lk_fewest_2 (l : Launch) (D : va_G) (T : Nat → ClassId) (ea mi : Nat) (sa : Nat → Nat) (o : Nat) (x0 x1 : Int32) {vs : List Value} {wt : va_W} {rm : Room} (hM : ZB l yX5_fewest wsX5_fewest rm (zW ea mi sa) D T ((o, .inr (6, vs)) :: wt) [.ref o, .int x0, .int x1] "java/lang/IllegalArgumentException") (hrm : rm.cells = 1 ∧ rm.slots = 6) : ZIH l yL_fewest wsL_fewest (lkR rm 4 1 6) (zX ea mi sa) D T (S := Unit) ((o, .inr (6, vs)) :: wt) (fun _ => ((o, .inr (6, vs)) :: wt)) [.ref o, .int x0, .int x1] (-1000002) 1 6 := by
  refine z_inIHW (cc := cL_fewest) (maxL := 4) (hh := [(0, 6, 7, 16), (0, 6, 11, 19)]) (rt := .int) (by decide +kernel) rfl (Nat.le_of_ble_eq_true rfl) ?_
  intro p e s m args below meth c sl9 A Q Z hX htb hnm Mz9 hl9 hret
  have Z : zC p s m args c cL_fewest 4 RL wsL_fewest D T A := Z
  have hx := Z.1.1
  have hb := Z.1.2.1
  have hts := Z.1.2.2.2.2
  have hl9 : lv_has sl9 4 [(0, .ref o), (1, .int (x0)), (2, .int (x1))] := hl9
  obtain ⟨is9, hp1, hp2, hp3⟩ := mid_put4 [] ((o, .inr (6, vs)) :: wt)
  refine lv_aload_n hx hb dL_fewest_0 rfl (lv_at hl9 0 rfl) ?_
  refine lv_iload_n hx hb dL_fewest_1 rfl (lv_at hl9 1 rfl) ?_
  refine lv_iload_n hx hb dL_fewest_2 rfl (lv_at hl9 2 rfl) ?_
  refine z_callVx (As := [.int (x0), .int (x1)]) (rest := []) (wc := ((o, .inr (6, vs)) :: wt)) (zW_k ea mi sa) hX.1 Z Mz9 hM (cwV 2 hts gL_fewest_X5_fewest rfl hrm.1 hrm.2 (by decide +kernel) ⟨Nat.le_refl _, Nat.le_refl _⟩) is9 hp1 hp2 (va_recv Z.2.1 Mz9.1 (ci := 6) (q0 := 0) rfl rfl) rfl hl9.1 (Nat.le_of_ble_eq_true rfl) dL_fewest_3 ⟨Nat.le_of_ble_eq_true rfl, Nat.le_of_ble_eq_true rfl⟩ rfl (fun Hp9 lc9 q9 ce Mz9 hcell hv hcl => ?_)
  refine vx_catch (name := "java/lang/IllegalArgumentException") Z.1.2.2.2.1 [(⟨0, 6, 7, 16⟩ : ExceptionTableEntry)] (⟨0, 6, 11, 19⟩ : ExceptionTableEntry) [] htb (List.forall_mem_cons.mpr ⟨Or.inr ⟨by decide, "java/lang/IndexOutOfBoundsException", hts (.classLink RL 16 "java/lang/IndexOutOfBoundsException") (by decide +kernel), hX.2.1⟩, fun _ hz => absurd hz List.not_mem_nil⟩) (by decide) (by decide) (hts (.classLink RL 19 "java/lang/IllegalArgumentException") (by decide +kernel)) ((zWw hX.1 (w := .castable "java/lang/IllegalArgumentException" "java/lang/IllegalArgumentException") (by decide +kernel)).use rfl) hcell hv hcl ?_
  refine lv_astore_n (lv' := [(3, .ref q9), (0, .ref o), (1, .int (x0)), (2, .int (x1))]) hx hb dL_fewest_11 rfl hl9 (by decide) rfl (fun sl9 hl9 => ?_)
  refine lv_ldc (v := (-1000002)) hx hb Z.1.2.2.2.1 (hts (.constant RL 21 (-1000002)) (by decide +kernel)) dL_fewest_12 ?_
  exact hret _ _ _ _ _ sl9 _ _ () Mz9 rfl rfl rfl (Nat.le_of_ble_eq_true rfl) (Nat.le_of_ble_eq_true rfl) dL_fewest_14
set_option maxHeartbeats 4000000 in
set_option maxRecDepth 100000 in
theorem lk_first (l : Launch) (D : va_G) (T : Nat → ClassId) (ea mi : Nat) (sa : Nat → Nat) (o : Nat) (x0 x1 : Int32) {vs : List Value} {wt : va_W} {rm : Room} {S : Type} {w' : S → va_W} {mc ms : Nat} {rv : Int32} (hM : ZIH l yX5_first wsX5_first rm (zW ea mi sa) D T (S := S) ((o, .inr (6, vs)) :: wt) w' [.ref o, .int x0, .int x1] rv mc ms) (hrm : rm.cells = mc ∧ rm.slots = ms) (hf : ∀ (u : S) (j : Nat), j < ((o, .inr (6, vs)) :: wt).length → ((w' u).map Prod.fst)[j]? = (((o, .inr (6, vs)) :: wt).map Prod.fst)[j]?) (hlen : ∀ u : S, ((o, .inr (6, vs)) :: wt).length ≤ (w' u).length) : ZIH l yL_first wsL_first (lkR rm 4 mc ms) (zX ea mi sa) D T (S := S) ((o, .inr (6, vs)) :: wt) w' [.ref o, .int x0, .int x1] rv mc ms := by
  refine z_inIHW (cc := cL_first) (maxL := 4) (hh := [(0, 6, 7, 16), (0, 6, 11, 19)]) (rt := .int) (by decide +kernel) rfl (Nat.le_of_ble_eq_true rfl) ?_
  intro p e s m args below meth c sl9 A Q Z hX htb hnm Mz9 hl9 hret
  have Z : zC p s m args c cL_first 4 RL wsL_first D T A := Z
  have hx := Z.1.1
  have hb := Z.1.2.1
  have hts := Z.1.2.2.2.2
  have hl9 : lv_has sl9 4 [(0, .ref o), (1, .int (x0)), (2, .int (x1))] := hl9
  obtain ⟨is9, hp1, hp2, hp3⟩ := mid_put4 [] ((o, .inr (6, vs)) :: wt)
  refine lv_aload_n hx hb dL_first_0 rfl (lv_at hl9 0 rfl) ?_
  refine lv_iload_n hx hb dL_first_1 rfl (lv_at hl9 1 rfl) ?_
  refine lv_iload_n hx hb dL_first_2 rfl (lv_at hl9 2 rfl) ?_
  refine z_callViH (As := [.int (x0), .int (x1)]) (rest := []) (wc := ((o, .inr (6, vs)) :: wt)) (zW_k ea mi sa) hX.1 Z Mz9 hM (cwV 2 hts gL_first_X5_first rfl hrm.1 hrm.2 (by decide +kernel) ⟨Nat.le_refl _, Nat.le_refl _⟩) is9 hp1 hp2 hf hlen (va_recv Z.2.1 Mz9.1 (ci := 6) (q0 := 0) rfl rfl) rfl hl9.1 (Nat.le_of_ble_eq_true rfl) dL_first_3 ⟨Nat.le_of_eq (Nat.zero_add _), Nat.le_of_eq (Nat.zero_add _)⟩ rfl (fun u Hp9 lc9 Mz9 => ?_)
  have Mz9 : zM D A s.heap (w' u) _ _ := zM_w (hp3 _ (hlen u)) Mz9
  exact hret _ _ _ _ _ sl9 _ _ u Mz9 rfl (rfl) rfl (Nat.le_of_eq (Nat.zero_add _)) (Nat.le_of_eq (Nat.zero_add _)) dL_first_6
set_option maxHeartbeats 4000000 in
set_option maxRecDepth 100000 in
theorem lk_first_1 (l : Launch) (D : va_G) (T : Nat → ClassId) (ea mi : Nat) (sa : Nat → Nat) (o : Nat) (x0 x1 : Int32) {vs : List Value} {wt : va_W} {rm : Room} (hM : ZB l yX5_first wsX5_first rm (zW ea mi sa) D T ((o, .inr (6, vs)) :: wt) [.ref o, .int x0, .int x1] "java/lang/IndexOutOfBoundsException") (hrm : rm.cells = 1 ∧ rm.slots = 6) : ZIH l yL_first wsL_first (lkR rm 4 1 6) (zX ea mi sa) D T (S := Unit) ((o, .inr (6, vs)) :: wt) (fun _ => ((o, .inr (6, vs)) :: wt)) [.ref o, .int x0, .int x1] (-1000001) 1 6 := by
  refine z_inIHW (cc := cL_first) (maxL := 4) (hh := [(0, 6, 7, 16), (0, 6, 11, 19)]) (rt := .int) (by decide +kernel) rfl (Nat.le_of_ble_eq_true rfl) ?_
  intro p e s m args below meth c sl9 A Q Z hX htb hnm Mz9 hl9 hret
  have Z : zC p s m args c cL_first 4 RL wsL_first D T A := Z
  have hx := Z.1.1
  have hb := Z.1.2.1
  have hts := Z.1.2.2.2.2
  have hl9 : lv_has sl9 4 [(0, .ref o), (1, .int (x0)), (2, .int (x1))] := hl9
  obtain ⟨is9, hp1, hp2, hp3⟩ := mid_put4 [] ((o, .inr (6, vs)) :: wt)
  refine lv_aload_n hx hb dL_first_0 rfl (lv_at hl9 0 rfl) ?_
  refine lv_iload_n hx hb dL_first_1 rfl (lv_at hl9 1 rfl) ?_
  refine lv_iload_n hx hb dL_first_2 rfl (lv_at hl9 2 rfl) ?_
  refine z_callVx (As := [.int (x0), .int (x1)]) (rest := []) (wc := ((o, .inr (6, vs)) :: wt)) (zW_k ea mi sa) hX.1 Z Mz9 hM (cwV 2 hts gL_first_X5_first rfl hrm.1 hrm.2 (by decide +kernel) ⟨Nat.le_refl _, Nat.le_refl _⟩) is9 hp1 hp2 (va_recv Z.2.1 Mz9.1 (ci := 6) (q0 := 0) rfl rfl) rfl hl9.1 (Nat.le_of_ble_eq_true rfl) dL_first_3 ⟨Nat.le_of_ble_eq_true rfl, Nat.le_of_ble_eq_true rfl⟩ rfl (fun Hp9 lc9 q9 ce Mz9 hcell hv hcl => ?_)
  refine vx_catch (name := "java/lang/IndexOutOfBoundsException") Z.1.2.2.2.1 [] (⟨0, 6, 7, 16⟩ : ExceptionTableEntry) [(⟨0, 6, 11, 19⟩ : ExceptionTableEntry)] htb (fun z hz => absurd hz List.not_mem_nil) (by decide) (by decide) (hts (.classLink RL 16 "java/lang/IndexOutOfBoundsException") (by decide +kernel)) ((zWw hX.1 (w := .castable "java/lang/IndexOutOfBoundsException" "java/lang/IndexOutOfBoundsException") (by decide +kernel)).use rfl) hcell hv hcl ?_
  refine lv_astore_n (lv' := [(3, .ref q9), (0, .ref o), (1, .int (x0)), (2, .int (x1))]) hx hb dL_first_7 rfl hl9 (by decide) rfl (fun sl9 hl9 => ?_)
  refine lv_ldc (v := (-1000001)) hx hb Z.1.2.2.2.1 (hts (.constant RL 18 (-1000001)) (by decide +kernel)) dL_first_8 ?_
  exact hret _ _ _ _ _ sl9 _ _ () Mz9 rfl rfl rfl (Nat.le_of_ble_eq_true rfl) (Nat.le_of_ble_eq_true rfl) dL_first_10
set_option maxHeartbeats 4000000 in
set_option maxRecDepth 100000 in
theorem lk_first_2 (l : Launch) (D : va_G) (T : Nat → ClassId) (ea mi : Nat) (sa : Nat → Nat) (o : Nat) (x0 x1 : Int32) {vs : List Value} {wt : va_W} {rm : Room} (hM : ZB l yX5_first wsX5_first rm (zW ea mi sa) D T ((o, .inr (6, vs)) :: wt) [.ref o, .int x0, .int x1] "java/lang/IllegalArgumentException") (hrm : rm.cells = 1 ∧ rm.slots = 6) : ZIH l yL_first wsL_first (lkR rm 4 1 6) (zX ea mi sa) D T (S := Unit) ((o, .inr (6, vs)) :: wt) (fun _ => ((o, .inr (6, vs)) :: wt)) [.ref o, .int x0, .int x1] (-1000002) 1 6 := by
  refine z_inIHW (cc := cL_first) (maxL := 4) (hh := [(0, 6, 7, 16), (0, 6, 11, 19)]) (rt := .int) (by decide +kernel) rfl (Nat.le_of_ble_eq_true rfl) ?_
  intro p e s m args below meth c sl9 A Q Z hX htb hnm Mz9 hl9 hret
  have Z : zC p s m args c cL_first 4 RL wsL_first D T A := Z
  have hx := Z.1.1
  have hb := Z.1.2.1
  have hts := Z.1.2.2.2.2
  have hl9 : lv_has sl9 4 [(0, .ref o), (1, .int (x0)), (2, .int (x1))] := hl9
  obtain ⟨is9, hp1, hp2, hp3⟩ := mid_put4 [] ((o, .inr (6, vs)) :: wt)
  refine lv_aload_n hx hb dL_first_0 rfl (lv_at hl9 0 rfl) ?_
  refine lv_iload_n hx hb dL_first_1 rfl (lv_at hl9 1 rfl) ?_
  refine lv_iload_n hx hb dL_first_2 rfl (lv_at hl9 2 rfl) ?_
  refine z_callVx (As := [.int (x0), .int (x1)]) (rest := []) (wc := ((o, .inr (6, vs)) :: wt)) (zW_k ea mi sa) hX.1 Z Mz9 hM (cwV 2 hts gL_first_X5_first rfl hrm.1 hrm.2 (by decide +kernel) ⟨Nat.le_refl _, Nat.le_refl _⟩) is9 hp1 hp2 (va_recv Z.2.1 Mz9.1 (ci := 6) (q0 := 0) rfl rfl) rfl hl9.1 (Nat.le_of_ble_eq_true rfl) dL_first_3 ⟨Nat.le_of_ble_eq_true rfl, Nat.le_of_ble_eq_true rfl⟩ rfl (fun Hp9 lc9 q9 ce Mz9 hcell hv hcl => ?_)
  refine vx_catch (name := "java/lang/IllegalArgumentException") Z.1.2.2.2.1 [(⟨0, 6, 7, 16⟩ : ExceptionTableEntry)] (⟨0, 6, 11, 19⟩ : ExceptionTableEntry) [] htb (List.forall_mem_cons.mpr ⟨Or.inr ⟨by decide, "java/lang/IndexOutOfBoundsException", hts (.classLink RL 16 "java/lang/IndexOutOfBoundsException") (by decide +kernel), hX.2.1⟩, fun _ hz => absurd hz List.not_mem_nil⟩) (by decide) (by decide) (hts (.classLink RL 19 "java/lang/IllegalArgumentException") (by decide +kernel)) ((zWw hX.1 (w := .castable "java/lang/IllegalArgumentException" "java/lang/IllegalArgumentException") (by decide +kernel)).use rfl) hcell hv hcl ?_
  refine lv_astore_n (lv' := [(3, .ref q9), (0, .ref o), (1, .int (x0)), (2, .int (x1))]) hx hb dL_first_11 rfl hl9 (by decide) rfl (fun sl9 hl9 => ?_)
  refine lv_ldc (v := (-1000002)) hx hb Z.1.2.2.2.1 (hts (.constant RL 21 (-1000002)) (by decide +kernel)) dL_first_12 ?_
  exact hret _ _ _ _ _ sl9 _ _ () Mz9 rfl rfl rfl (Nat.le_of_ble_eq_true rfl) (Nat.le_of_ble_eq_true rfl) dL_first_14
set_option maxHeartbeats 4000000 in
set_option maxRecDepth 100000 in
theorem lk_job (l : Launch) (D : va_G) (T : Nat → ClassId) (ea mi : Nat) (sa : Nat → Nat) (o : Nat) (x0 : Int32) {vs : List Value} {wt : va_W} {rm : Room} {S : Type} {w' : S → va_W} {mc ms : Nat} {rv : Int32} (hM : ZIH l yX5_job wsX5_job rm (zW ea mi sa) D T (S := S) ((o, .inr (6, vs)) :: wt) w' [.ref o, .int x0] rv mc ms) (hrm : rm.cells = mc ∧ rm.slots = ms) (hf : ∀ (u : S) (j : Nat), j < ((o, .inr (6, vs)) :: wt).length → ((w' u).map Prod.fst)[j]? = (((o, .inr (6, vs)) :: wt).map Prod.fst)[j]?) (hlen : ∀ u : S, ((o, .inr (6, vs)) :: wt).length ≤ (w' u).length) : ZIH l yL_job wsL_job (lkR rm 2 mc ms) (zX ea mi sa) D T (S := S) ((o, .inr (6, vs)) :: wt) w' [.ref o, .int x0] rv mc ms := by
  refine z_inIHW (cc := cL_job) (maxL := 3) (hh := [(0, 5, 6, 19), (0, 5, 10, 26)]) (rt := .int) (by decide +kernel) rfl (Nat.le_of_ble_eq_true rfl) ?_
  intro p e s m args below meth c sl9 A Q Z hX htb hnm Mz9 hl9 hret
  have Z : zC p s m args c cL_job 3 RL wsL_job D T A := Z
  have hx := Z.1.1
  have hb := Z.1.2.1
  have hts := Z.1.2.2.2.2
  have hl9 : lv_has sl9 3 [(0, .ref o), (1, .int (x0))] := hl9
  obtain ⟨is9, hp1, hp2, hp3⟩ := mid_put4 [] ((o, .inr (6, vs)) :: wt)
  refine lv_aload_n hx hb dL_job_0 rfl (lv_at hl9 0 rfl) ?_
  refine lv_iload_n hx hb dL_job_1 rfl (lv_at hl9 1 rfl) ?_
  refine z_callViH (As := [.int (x0)]) (rest := []) (wc := ((o, .inr (6, vs)) :: wt)) (zW_k ea mi sa) hX.1 Z Mz9 hM (cwV 1 hts gL_job_X5_job rfl hrm.1 hrm.2 (by decide +kernel) ⟨Nat.le_refl _, Nat.le_refl _⟩) is9 hp1 hp2 hf hlen (va_recv Z.2.1 Mz9.1 (ci := 6) (q0 := 0) rfl rfl) rfl hl9.1 (Nat.le_of_ble_eq_true rfl) dL_job_2 ⟨Nat.le_of_eq (Nat.zero_add _), Nat.le_of_eq (Nat.zero_add _)⟩ rfl (fun u Hp9 lc9 Mz9 => ?_)
  have Mz9 : zM D A s.heap (w' u) _ _ := zM_w (hp3 _ (hlen u)) Mz9
  exact hret _ _ _ _ _ sl9 _ _ u Mz9 rfl (rfl) rfl (Nat.le_of_eq (Nat.zero_add _)) (Nat.le_of_eq (Nat.zero_add _)) dL_job_5
set_option maxHeartbeats 4000000 in
set_option maxRecDepth 100000 in
theorem lk_job_1 (l : Launch) (D : va_G) (T : Nat → ClassId) (ea mi : Nat) (sa : Nat → Nat) (o : Nat) (x0 : Int32) {vs : List Value} {wt : va_W} {rm : Room} (hM : ZB l yX5_job wsX5_job rm (zW ea mi sa) D T ((o, .inr (6, vs)) :: wt) [.ref o, .int x0] "java/lang/IllegalArgumentException") (hrm : rm.cells = 1 ∧ rm.slots = 6) : ZIH l yL_job wsL_job (lkR rm 2 1 6) (zX ea mi sa) D T (S := Unit) ((o, .inr (6, vs)) :: wt) (fun _ => ((o, .inr (6, vs)) :: wt)) [.ref o, .int x0] (-1000002) 1 6 := by
  refine z_inIHW (cc := cL_job) (maxL := 3) (hh := [(0, 5, 6, 19), (0, 5, 10, 26)]) (rt := .int) (by decide +kernel) rfl (Nat.le_of_ble_eq_true rfl) ?_
  intro p e s m args below meth c sl9 A Q Z hX htb hnm Mz9 hl9 hret
  have Z : zC p s m args c cL_job 3 RL wsL_job D T A := Z
  have hx := Z.1.1
  have hb := Z.1.2.1
  have hts := Z.1.2.2.2.2
  have hl9 : lv_has sl9 3 [(0, .ref o), (1, .int (x0))] := hl9
  obtain ⟨is9, hp1, hp2, hp3⟩ := mid_put4 [] ((o, .inr (6, vs)) :: wt)
  refine lv_aload_n hx hb dL_job_0 rfl (lv_at hl9 0 rfl) ?_
  refine lv_iload_n hx hb dL_job_1 rfl (lv_at hl9 1 rfl) ?_
  refine z_callVx (As := [.int (x0)]) (rest := []) (wc := ((o, .inr (6, vs)) :: wt)) (zW_k ea mi sa) hX.1 Z Mz9 hM (cwV 1 hts gL_job_X5_job rfl hrm.1 hrm.2 (by decide +kernel) ⟨Nat.le_refl _, Nat.le_refl _⟩) is9 hp1 hp2 (va_recv Z.2.1 Mz9.1 (ci := 6) (q0 := 0) rfl rfl) rfl hl9.1 (Nat.le_of_ble_eq_true rfl) dL_job_2 ⟨Nat.le_of_ble_eq_true rfl, Nat.le_of_ble_eq_true rfl⟩ rfl (fun Hp9 lc9 q9 ce Mz9 hcell hv hcl => ?_)
  refine vx_catch (name := "java/lang/IllegalArgumentException") Z.1.2.2.2.1 [] (⟨0, 5, 6, 19⟩ : ExceptionTableEntry) [(⟨0, 5, 10, 26⟩ : ExceptionTableEntry)] htb (fun z hz => absurd hz List.not_mem_nil) (by decide) (by decide) (hts (.classLink RL 19 "java/lang/IllegalArgumentException") (by decide +kernel)) ((zWw hX.1 (w := .castable "java/lang/IllegalArgumentException" "java/lang/IllegalArgumentException") (by decide +kernel)).use rfl) hcell hv hcl ?_
  refine lv_astore_n (lv' := [(2, .ref q9), (0, .ref o), (1, .int (x0))]) hx hb dL_job_6 rfl hl9 (by decide) rfl (fun sl9 hl9 => ?_)
  refine lv_ldc (v := (-1000002)) hx hb Z.1.2.2.2.1 (hts (.constant RL 21 (-1000002)) (by decide +kernel)) dL_job_7 ?_
  exact hret _ _ _ _ _ sl9 _ _ () Mz9 rfl rfl rfl (Nat.le_of_ble_eq_true rfl) (Nat.le_of_ble_eq_true rfl) dL_job_9
set_option maxHeartbeats 4000000 in
set_option maxRecDepth 100000 in
theorem lk_job_2 (l : Launch) (D : va_G) (T : Nat → ClassId) (ea mi : Nat) (sa : Nat → Nat) (o : Nat) (x0 : Int32) {vs : List Value} {wt : va_W} {rm : Room} (hM : ZB l yX5_job wsX5_job rm (zW ea mi sa) D T ((o, .inr (6, vs)) :: wt) [.ref o, .int x0] "java/lang/IllegalStateException") (hrm : rm.cells = 1 ∧ rm.slots = 6) : ZIH l yL_job wsL_job (lkR rm 2 1 6) (zX ea mi sa) D T (S := Unit) ((o, .inr (6, vs)) :: wt) (fun _ => ((o, .inr (6, vs)) :: wt)) [.ref o, .int x0] (-1000003) 1 6 := by
  refine z_inIHW (cc := cL_job) (maxL := 3) (hh := [(0, 5, 6, 19), (0, 5, 10, 26)]) (rt := .int) (by decide +kernel) rfl (Nat.le_of_ble_eq_true rfl) ?_
  intro p e s m args below meth c sl9 A Q Z hX htb hnm Mz9 hl9 hret
  have Z : zC p s m args c cL_job 3 RL wsL_job D T A := Z
  have hx := Z.1.1
  have hb := Z.1.2.1
  have hts := Z.1.2.2.2.2
  have hl9 : lv_has sl9 3 [(0, .ref o), (1, .int (x0))] := hl9
  obtain ⟨is9, hp1, hp2, hp3⟩ := mid_put4 [] ((o, .inr (6, vs)) :: wt)
  refine lv_aload_n hx hb dL_job_0 rfl (lv_at hl9 0 rfl) ?_
  refine lv_iload_n hx hb dL_job_1 rfl (lv_at hl9 1 rfl) ?_
  refine z_callVx (As := [.int (x0)]) (rest := []) (wc := ((o, .inr (6, vs)) :: wt)) (zW_k ea mi sa) hX.1 Z Mz9 hM (cwV 1 hts gL_job_X5_job rfl hrm.1 hrm.2 (by decide +kernel) ⟨Nat.le_refl _, Nat.le_refl _⟩) is9 hp1 hp2 (va_recv Z.2.1 Mz9.1 (ci := 6) (q0 := 0) rfl rfl) rfl hl9.1 (Nat.le_of_ble_eq_true rfl) dL_job_2 ⟨Nat.le_of_ble_eq_true rfl, Nat.le_of_ble_eq_true rfl⟩ rfl (fun Hp9 lc9 q9 ce Mz9 hcell hv hcl => ?_)
  refine vx_catch (name := "java/lang/IllegalStateException") Z.1.2.2.2.1 [(⟨0, 5, 6, 19⟩ : ExceptionTableEntry)] (⟨0, 5, 10, 26⟩ : ExceptionTableEntry) [] htb (List.forall_mem_cons.mpr ⟨Or.inr ⟨by decide, "java/lang/IllegalArgumentException", hts (.classLink RL 19 "java/lang/IllegalArgumentException") (by decide +kernel), hX.2.2.2⟩, fun _ hz => absurd hz List.not_mem_nil⟩) (by decide) (by decide) (hts (.classLink RL 26 "java/lang/IllegalStateException") (by decide +kernel)) ((zWw hX.1 (w := .castable "java/lang/IllegalStateException" "java/lang/IllegalStateException") (by decide +kernel)).use rfl) hcell hv hcl ?_
  refine lv_astore_n (lv' := [(2, .ref q9), (0, .ref o), (1, .int (x0))]) hx hb dL_job_10 rfl hl9 (by decide) rfl (fun sl9 hl9 => ?_)
  refine lv_ldc (v := (-1000003)) hx hb Z.1.2.2.2.1 (hts (.constant RL 28 (-1000003)) (by decide +kernel)) dL_job_11 ?_
  exact hret _ _ _ _ _ sl9 _ _ () Mz9 rfl rfl rfl (Nat.le_of_ble_eq_true rfl) (Nat.le_of_ble_eq_true rfl) dL_job_13
set_option maxHeartbeats 4000000 in
set_option maxRecDepth 100000 in
theorem lk_planned (l : Launch) (D : va_G) (T : Nat → ClassId) (ea mi : Nat) (sa : Nat → Nat) (o : Nat) (x0 : Int32) {vs : List Value} {wt : va_W} {rm : Room} {S : Type} {w' : S → va_W} {mc ms : Nat} {rv : Int32} (hM : ZIH l yX5_planned wsX5_planned rm (zW ea mi sa) D T (S := S) ((o, .inr (6, vs)) :: wt) w' [.ref o, .int x0] rv mc ms) (hrm : rm.cells = mc ∧ rm.slots = ms) (hf : ∀ (u : S) (j : Nat), j < ((o, .inr (6, vs)) :: wt).length → ((w' u).map Prod.fst)[j]? = (((o, .inr (6, vs)) :: wt).map Prod.fst)[j]?) (hlen : ∀ u : S, ((o, .inr (6, vs)) :: wt).length ≤ (w' u).length) : ZIH l yL_planned wsL_planned (lkR rm 2 mc ms) (zX ea mi sa) D T (S := S) ((o, .inr (6, vs)) :: wt) w' [.ref o, .int x0] rv mc ms := by
  refine z_inIHW (cc := cL_planned) (maxL := 3) (hh := [(0, 5, 6, 19)]) (rt := .int) (by decide +kernel) rfl (Nat.le_of_ble_eq_true rfl) ?_
  intro p e s m args below meth c sl9 A Q Z hX htb hnm Mz9 hl9 hret
  have Z : zC p s m args c cL_planned 3 RL wsL_planned D T A := Z
  have hx := Z.1.1
  have hb := Z.1.2.1
  have hts := Z.1.2.2.2.2
  have hl9 : lv_has sl9 3 [(0, .ref o), (1, .int (x0))] := hl9
  obtain ⟨is9, hp1, hp2, hp3⟩ := mid_put4 [] ((o, .inr (6, vs)) :: wt)
  refine lv_aload_n hx hb dL_planned_0 rfl (lv_at hl9 0 rfl) ?_
  refine lv_iload_n hx hb dL_planned_1 rfl (lv_at hl9 1 rfl) ?_
  refine z_callViH (As := [.int (x0)]) (rest := []) (wc := ((o, .inr (6, vs)) :: wt)) (zW_k ea mi sa) hX.1 Z Mz9 hM (cwV 1 hts gL_planned_X5_planned rfl hrm.1 hrm.2 (by decide +kernel) ⟨Nat.le_refl _, Nat.le_refl _⟩) is9 hp1 hp2 hf hlen (va_recv Z.2.1 Mz9.1 (ci := 6) (q0 := 0) rfl rfl) rfl hl9.1 (Nat.le_of_ble_eq_true rfl) dL_planned_2 ⟨Nat.le_of_eq (Nat.zero_add _), Nat.le_of_eq (Nat.zero_add _)⟩ rfl (fun u Hp9 lc9 Mz9 => ?_)
  have Mz9 : zM D A s.heap (w' u) _ _ := zM_w (hp3 _ (hlen u)) Mz9
  exact hret _ _ _ _ _ sl9 _ _ u Mz9 rfl (rfl) rfl (Nat.le_of_eq (Nat.zero_add _)) (Nat.le_of_eq (Nat.zero_add _)) dL_planned_5
set_option maxHeartbeats 4000000 in
set_option maxRecDepth 100000 in
theorem lk_planned_1 (l : Launch) (D : va_G) (T : Nat → ClassId) (ea mi : Nat) (sa : Nat → Nat) (o : Nat) (x0 : Int32) {vs : List Value} {wt : va_W} {rm : Room} (hM : ZB l yX5_planned wsX5_planned rm (zW ea mi sa) D T ((o, .inr (6, vs)) :: wt) [.ref o, .int x0] "java/lang/IllegalArgumentException") (hrm : rm.cells = 1 ∧ rm.slots = 6) : ZIH l yL_planned wsL_planned (lkR rm 2 1 6) (zX ea mi sa) D T (S := Unit) ((o, .inr (6, vs)) :: wt) (fun _ => ((o, .inr (6, vs)) :: wt)) [.ref o, .int x0] (-1000002) 1 6 := by
  refine z_inIHW (cc := cL_planned) (maxL := 3) (hh := [(0, 5, 6, 19)]) (rt := .int) (by decide +kernel) rfl (Nat.le_of_ble_eq_true rfl) ?_
  intro p e s m args below meth c sl9 A Q Z hX htb hnm Mz9 hl9 hret
  have Z : zC p s m args c cL_planned 3 RL wsL_planned D T A := Z
  have hx := Z.1.1
  have hb := Z.1.2.1
  have hts := Z.1.2.2.2.2
  have hl9 : lv_has sl9 3 [(0, .ref o), (1, .int (x0))] := hl9
  obtain ⟨is9, hp1, hp2, hp3⟩ := mid_put4 [] ((o, .inr (6, vs)) :: wt)
  refine lv_aload_n hx hb dL_planned_0 rfl (lv_at hl9 0 rfl) ?_
  refine lv_iload_n hx hb dL_planned_1 rfl (lv_at hl9 1 rfl) ?_
  refine z_callVx (As := [.int (x0)]) (rest := []) (wc := ((o, .inr (6, vs)) :: wt)) (zW_k ea mi sa) hX.1 Z Mz9 hM (cwV 1 hts gL_planned_X5_planned rfl hrm.1 hrm.2 (by decide +kernel) ⟨Nat.le_refl _, Nat.le_refl _⟩) is9 hp1 hp2 (va_recv Z.2.1 Mz9.1 (ci := 6) (q0 := 0) rfl rfl) rfl hl9.1 (Nat.le_of_ble_eq_true rfl) dL_planned_2 ⟨Nat.le_of_ble_eq_true rfl, Nat.le_of_ble_eq_true rfl⟩ rfl (fun Hp9 lc9 q9 ce Mz9 hcell hv hcl => ?_)
  refine vx_catch (name := "java/lang/IllegalArgumentException") Z.1.2.2.2.1 [] (⟨0, 5, 6, 19⟩ : ExceptionTableEntry) [] htb (fun z hz => absurd hz List.not_mem_nil) (by decide) (by decide) (hts (.classLink RL 19 "java/lang/IllegalArgumentException") (by decide +kernel)) ((zWw hX.1 (w := .castable "java/lang/IllegalArgumentException" "java/lang/IllegalArgumentException") (by decide +kernel)).use rfl) hcell hv hcl ?_
  refine lv_astore_n (lv' := [(2, .ref q9), (0, .ref o), (1, .int (x0))]) hx hb dL_planned_6 rfl hl9 (by decide) rfl (fun sl9 hl9 => ?_)
  refine lv_ldc (v := (-1000002)) hx hb Z.1.2.2.2.1 (hts (.constant RL 21 (-1000002)) (by decide +kernel)) dL_planned_7 ?_
  exact hret _ _ _ _ _ sl9 _ _ () Mz9 rfl rfl rfl (Nat.le_of_ble_eq_true rfl) (Nat.le_of_ble_eq_true rfl) dL_planned_9
