/-! ===== laid by program ===== -/
/-! ===== the law's helpers ===== -/
set_option maxHeartbeats 4000000 in
set_option maxRecDepth 100000 in
theorem lk_sink (l : Launch) (D : va_G) (T : Nat → ClassId) (ea mi : Nat) (sa : Nat → Nat) (o out : Nat) (f : Nat → Int64) (x0 : Int32) {vs : List Value} {wt : va_W} {rm : Room} {S : Type} {w' : S → va_W} {mc ms : Nat} {rv : Int32} (hM : ZIH l yX5_sink wsX5_sink rm (zW ea mi sa) D T (S := S) ((o, .inr (6, vs)) :: wt) w' [.ref o, .int x0] rv mc ms) (hrm : rm.cells = mc ∧ rm.slots = ms) (hf : ∀ (u : S) (j : Nat), j < ((o, .inr (6, vs)) :: wt).length → ((w' u).map Prod.fst)[j]? = (((o, .inr (6, vs)) :: wt).map Prod.fst)[j]?) (hlen : ∀ u : S, ((o, .inr (6, vs)) :: wt).length ≤ (w' u).length) : ZIH l yL_sink wsL_sink (lkR rm 4 mc ms) (zX ea mi sa) D T (S := S) (ouW out T f :: ((o, .inr (6, vs)) :: wt)) (fun u => (out, .inl (T 2, 1, .inr (.inl (vp_updL f (0 : Int32).toNatClampNeg rv.toInt64)))) :: w' u) [.ref o, .int x0, .ref out] 0 mc ms := by
  refine z_inIHW (cc := cL_sink) (maxL := 4) (hh := [(0, 9, 12, 13)]) (rt := .int) (by decide +kernel) rfl (Nat.le_of_ble_eq_true rfl) ?_
  intro p e s m args below meth c sl9 A Q Z hX htb hnm Mz9 hl9 hret
  have Z : zC p s m args c cL_sink 4 RL wsL_sink D T A := Z
  have hx := Z.1.1
  have hb := Z.1.2.1
  have hts := Z.1.2.2.2.2
  have hl9 : lv_has sl9 4 [(0, .ref o), (1, .int (x0)), (2, .ref out)] := hl9
  obtain ⟨is9, hp1, hp2, hp3⟩ := mid_put2 (ouW out T f) ((o, .inr (6, vs)) :: wt)
  refine lv_aload_n hx hb dL_sink_0 rfl (lv_at hl9 2 rfl) ?_
  refine lv_iconst (v := 0) hx hb dL_sink_1 (by decide) ?_
  refine lv_aload_n hx hb dL_sink_2 rfl (lv_at hl9 0 rfl) ?_
  refine lv_iload_n hx hb dL_sink_3 rfl (lv_at hl9 1 rfl) ?_
  refine z_callViH (As := [.int (x0)]) (rest := [.int 0, .ref out]) (wc := ((o, .inr (6, vs)) :: wt)) (zW_k ea mi sa) hX.1 Z Mz9 hM (cwV 1 hts gL_sink_X5_sink rfl hrm.1 hrm.2 (by decide +kernel) ⟨Nat.le_refl _, Nat.le_refl _⟩) is9 hp1 hp2 hf hlen (va_recv Z.2.1 Mz9.1 (ci := 6) (q0 := 1) rfl rfl) rfl hl9.1 (Nat.le_of_ble_eq_true rfl) dL_sink_4 ⟨Nat.le_of_eq (Nat.zero_add _), Nat.le_of_eq (Nat.zero_add _)⟩ rfl (fun u Hp9 lc9 Mz9 => ?_)
  have Mz9 : zM D A s.heap (ouW out T f :: w' u) _ _ := zM_w (hp3 _ (hlen u)) Mz9
  refine lv_i2l (v := rv.toInt64) hx hb dL_sink_7 rfl ?_
  refine va_last hx hb Z.2.1 Mz9.1 Mz9.2.1 Mz9.2.2 0 2 (cA := T 2) (n := 1) (f := f) rfl rfl (i := 0) (by unfold vp_in; decide) dL_sink_8 (fun Hp9 lc9 hP9 hD9 hS9 => ?_)
  have Mz9 : zM D A s.heap ((out, .inl (T 2, 1, .inr (.inl (vp_updL f (0 : Int32).toNatClampNeg rv.toInt64)))) :: w' u) _ _ := ⟨hP9, hD9, hS9⟩
  refine lv_goto (tgt := 15) hx hb dL_sink_9 (by decide) ?_
  refine lv_iconst (v := 0) hx hb dL_sink_15 (by decide) ?_
  exact hret _ _ _ _ _ sl9 _ _ u Mz9 (rfl) rfl rfl (Nat.le_of_eq (Nat.zero_add _)) (Nat.le_of_eq (Nat.zero_add _)) dL_sink_16
set_option maxHeartbeats 4000000 in
set_option maxRecDepth 100000 in
theorem lk_sink_1 (l : Launch) (D : va_G) (T : Nat → ClassId) (ea mi : Nat) (sa : Nat → Nat) (o out : Nat) (f : Nat → Int64) (x0 : Int32) {vs : List Value} {wt : va_W} {rm : Room} (hM : ZB l yX5_sink wsX5_sink rm (zW ea mi sa) D T ((o, .inr (6, vs)) :: wt) [.ref o, .int x0] "java/lang/IndexOutOfBoundsException") (hrm : rm.cells = 1 ∧ rm.slots = 6) : ZIH l yL_sink wsL_sink (lkR rm 4 1 6) (zX ea mi sa) D T (S := Unit) (ouW out T f :: ((o, .inr (6, vs)) :: wt)) (fun _ => ouW out T f :: ((o, .inr (6, vs)) :: wt)) [.ref o, .int x0, .ref out] 1 1 6 := by
  refine z_inIHW (cc := cL_sink) (maxL := 4) (hh := [(0, 9, 12, 13)]) (rt := .int) (by decide +kernel) rfl (Nat.le_of_ble_eq_true rfl) ?_
  intro p e s m args below meth c sl9 A Q Z hX htb hnm Mz9 hl9 hret
  have Z : zC p s m args c cL_sink 4 RL wsL_sink D T A := Z
  have hx := Z.1.1
  have hb := Z.1.2.1
  have hts := Z.1.2.2.2.2
  have hl9 : lv_has sl9 4 [(0, .ref o), (1, .int (x0)), (2, .ref out)] := hl9
  obtain ⟨is9, hp1, hp2, hp3⟩ := mid_put2 (ouW out T f) ((o, .inr (6, vs)) :: wt)
  refine lv_aload_n hx hb dL_sink_0 rfl (lv_at hl9 2 rfl) ?_
  refine lv_iconst (v := 0) hx hb dL_sink_1 (by decide) ?_
  refine lv_aload_n hx hb dL_sink_2 rfl (lv_at hl9 0 rfl) ?_
  refine lv_iload_n hx hb dL_sink_3 rfl (lv_at hl9 1 rfl) ?_
  refine z_callVx (As := [.int (x0)]) (rest := [.int 0, .ref out]) (wc := ((o, .inr (6, vs)) :: wt)) (zW_k ea mi sa) hX.1 Z Mz9 hM (cwV 1 hts gL_sink_X5_sink rfl hrm.1 hrm.2 (by decide +kernel) ⟨Nat.le_refl _, Nat.le_refl _⟩) is9 hp1 hp2 (va_recv Z.2.1 Mz9.1 (ci := 6) (q0 := 1) rfl rfl) rfl hl9.1 (Nat.le_of_ble_eq_true rfl) dL_sink_4 ⟨Nat.le_of_ble_eq_true rfl, Nat.le_of_ble_eq_true rfl⟩ rfl (fun Hp9 lc9 q9 ce Mz9 hcell hv hcl => ?_)
  refine vx_catch (name := "java/lang/IndexOutOfBoundsException") Z.1.2.2.2.1 [] (⟨0, 9, 12, 13⟩ : ExceptionTableEntry) [] htb (fun z hz => absurd hz List.not_mem_nil) (by decide) (by decide) (hts (.classLink RL 13 "java/lang/IndexOutOfBoundsException") (by decide +kernel)) ((zWw hX.1 (w := .castable "java/lang/IndexOutOfBoundsException" "java/lang/IndexOutOfBoundsException") (by decide +kernel)).use rfl) hcell hv hcl ?_
  refine lv_astore_n (lv' := [(3, .ref q9), (0, .ref o), (1, .int (x0)), (2, .ref out)]) hx hb dL_sink_12 rfl hl9 (by decide) rfl (fun sl9 hl9 => ?_)
  refine lv_iconst (v := 1) hx hb dL_sink_13 (by decide) ?_
  exact hret _ _ _ _ _ sl9 _ _ () Mz9 rfl rfl rfl (Nat.le_of_ble_eq_true rfl) (Nat.le_of_ble_eq_true rfl) dL_sink_14
set_option maxHeartbeats 4000000 in
set_option maxRecDepth 100000 in
theorem lk_press (l : Launch) (D : va_G) (T : Nat → ClassId) (ea mi : Nat) (sa : Nat → Nat) (o out : Nat) (f : Nat → Int64) (x0 x1 x2 : Int32) {vs : List Value} {wt : va_W} {rm : Room} {S : Type} {w' : S → va_W} {mc ms : Nat} {rv : Int32} (hM : ZIH l yX5_press wsX5_press rm (zW ea mi sa) D T (S := S) ((o, .inr (6, vs)) :: wt) w' [.ref o, .int x0, .int x1, .int x2] rv mc ms) (hrm : rm.cells = mc ∧ rm.slots = ms) (hf : ∀ (u : S) (j : Nat), j < ((o, .inr (6, vs)) :: wt).length → ((w' u).map Prod.fst)[j]? = (((o, .inr (6, vs)) :: wt).map Prod.fst)[j]?) (hlen : ∀ u : S, ((o, .inr (6, vs)) :: wt).length ≤ (w' u).length) : ZIH l yL_press wsL_press (lkR rm 6 mc ms) (zX ea mi sa) D T (S := S) (ouW out T f :: ((o, .inr (6, vs)) :: wt)) (fun u => (out, .inl (T 2, 1, .inr (.inl (vp_updL f (0 : Int32).toNatClampNeg rv.toInt64)))) :: w' u) [.ref o, .int x0, .int x1, .int x2, .ref out] 0 mc ms := by
  refine z_inIHW (cc := cL_press) (maxL := 6) (hh := [(0, 12, 15, 13), (0, 12, 19, 15), (0, 12, 23, 21)]) (rt := .int) (by decide +kernel) rfl (Nat.le_of_ble_eq_true rfl) ?_
  intro p e s m args below meth c sl9 A Q Z hX htb hnm Mz9 hl9 hret
  have Z : zC p s m args c cL_press 6 RL wsL_press D T A := Z
  have hx := Z.1.1
  have hb := Z.1.2.1
  have hts := Z.1.2.2.2.2
  have hl9 : lv_has sl9 6 [(0, .ref o), (1, .int (x0)), (2, .int (x1)), (3, .int (x2)), (4, .ref out)] := hl9
  obtain ⟨is9, hp1, hp2, hp3⟩ := mid_put2 (ouW out T f) ((o, .inr (6, vs)) :: wt)
  refine lv_aload hx hb dL_press_0 (lv_at hl9 4 rfl) ?_
  refine lv_iconst (v := 0) hx hb dL_press_2 (by decide) ?_
  refine lv_aload_n hx hb dL_press_3 rfl (lv_at hl9 0 rfl) ?_
  refine lv_iload_n hx hb dL_press_4 rfl (lv_at hl9 1 rfl) ?_
  refine lv_iload_n hx hb dL_press_5 rfl (lv_at hl9 2 rfl) ?_
  refine lv_iload_n hx hb dL_press_6 rfl (lv_at hl9 3 rfl) ?_
  refine z_callViH (As := [.int (x0), .int (x1), .int (x2)]) (rest := [.int 0, .ref out]) (wc := ((o, .inr (6, vs)) :: wt)) (zW_k ea mi sa) hX.1 Z Mz9 hM (cwV 3 hts gL_press_X5_press rfl hrm.1 hrm.2 (by decide +kernel) ⟨Nat.le_refl _, Nat.le_refl _⟩) is9 hp1 hp2 hf hlen (va_recv Z.2.1 Mz9.1 (ci := 6) (q0 := 1) rfl rfl) rfl hl9.1 (Nat.le_of_ble_eq_true rfl) dL_press_7 ⟨Nat.le_of_eq (Nat.zero_add _), Nat.le_of_eq (Nat.zero_add _)⟩ rfl (fun u Hp9 lc9 Mz9 => ?_)
  have Mz9 : zM D A s.heap (ouW out T f :: w' u) _ _ := zM_w (hp3 _ (hlen u)) Mz9
  refine lv_i2l (v := rv.toInt64) hx hb dL_press_10 rfl ?_
  refine va_last hx hb Z.2.1 Mz9.1 Mz9.2.1 Mz9.2.2 0 2 (cA := T 2) (n := 1) (f := f) rfl rfl (i := 0) (by unfold vp_in; decide) dL_press_11 (fun Hp9 lc9 hP9 hD9 hS9 => ?_)
  have Mz9 : zM D A s.heap ((out, .inl (T 2, 1, .inr (.inl (vp_updL f (0 : Int32).toNatClampNeg rv.toInt64)))) :: w' u) _ _ := ⟨hP9, hD9, hS9⟩
  refine lv_goto (tgt := 27) hx hb dL_press_12 (by decide) ?_
  refine lv_iconst (v := 0) hx hb dL_press_27 (by decide) ?_
  exact hret _ _ _ _ _ sl9 _ _ u Mz9 (rfl) rfl rfl (Nat.le_of_eq (Nat.zero_add _)) (Nat.le_of_eq (Nat.zero_add _)) dL_press_28
set_option maxHeartbeats 4000000 in
set_option maxRecDepth 100000 in
theorem lk_press_1 (l : Launch) (D : va_G) (T : Nat → ClassId) (ea mi : Nat) (sa : Nat → Nat) (o out : Nat) (f : Nat → Int64) (x0 x1 x2 : Int32) {vs : List Value} {wt : va_W} {rm : Room} (hM : ZB l yX5_press wsX5_press rm (zW ea mi sa) D T ((o, .inr (6, vs)) :: wt) [.ref o, .int x0, .int x1, .int x2] "java/lang/IndexOutOfBoundsException") (hrm : rm.cells = 1 ∧ rm.slots = 6) : ZIH l yL_press wsL_press (lkR rm 6 1 6) (zX ea mi sa) D T (S := Unit) (ouW out T f :: ((o, .inr (6, vs)) :: wt)) (fun _ => ouW out T f :: ((o, .inr (6, vs)) :: wt)) [.ref o, .int x0, .int x1, .int x2, .ref out] 1 1 6 := by
  refine z_inIHW (cc := cL_press) (maxL := 6) (hh := [(0, 12, 15, 13), (0, 12, 19, 15), (0, 12, 23, 21)]) (rt := .int) (by decide +kernel) rfl (Nat.le_of_ble_eq_true rfl) ?_
  intro p e s m args below meth c sl9 A Q Z hX htb hnm Mz9 hl9 hret
  have Z : zC p s m args c cL_press 6 RL wsL_press D T A := Z
  have hx := Z.1.1
  have hb := Z.1.2.1
  have hts := Z.1.2.2.2.2
  have hl9 : lv_has sl9 6 [(0, .ref o), (1, .int (x0)), (2, .int (x1)), (3, .int (x2)), (4, .ref out)] := hl9
  obtain ⟨is9, hp1, hp2, hp3⟩ := mid_put2 (ouW out T f) ((o, .inr (6, vs)) :: wt)
  refine lv_aload hx hb dL_press_0 (lv_at hl9 4 rfl) ?_
  refine lv_iconst (v := 0) hx hb dL_press_2 (by decide) ?_
  refine lv_aload_n hx hb dL_press_3 rfl (lv_at hl9 0 rfl) ?_
  refine lv_iload_n hx hb dL_press_4 rfl (lv_at hl9 1 rfl) ?_
  refine lv_iload_n hx hb dL_press_5 rfl (lv_at hl9 2 rfl) ?_
  refine lv_iload_n hx hb dL_press_6 rfl (lv_at hl9 3 rfl) ?_
  refine z_callVx (As := [.int (x0), .int (x1), .int (x2)]) (rest := [.int 0, .ref out]) (wc := ((o, .inr (6, vs)) :: wt)) (zW_k ea mi sa) hX.1 Z Mz9 hM (cwV 3 hts gL_press_X5_press rfl hrm.1 hrm.2 (by decide +kernel) ⟨Nat.le_refl _, Nat.le_refl _⟩) is9 hp1 hp2 (va_recv Z.2.1 Mz9.1 (ci := 6) (q0 := 1) rfl rfl) rfl hl9.1 (Nat.le_of_ble_eq_true rfl) dL_press_7 ⟨Nat.le_of_ble_eq_true rfl, Nat.le_of_ble_eq_true rfl⟩ rfl (fun Hp9 lc9 q9 ce Mz9 hcell hv hcl => ?_)
  refine vx_catch (name := "java/lang/IndexOutOfBoundsException") Z.1.2.2.2.1 [] (⟨0, 12, 15, 13⟩ : ExceptionTableEntry) [(⟨0, 12, 19, 15⟩ : ExceptionTableEntry), (⟨0, 12, 23, 21⟩ : ExceptionTableEntry)] htb (fun z hz => absurd hz List.not_mem_nil) (by decide) (by decide) (hts (.classLink RL 13 "java/lang/IndexOutOfBoundsException") (by decide +kernel)) ((zWw hX.1 (w := .castable "java/lang/IndexOutOfBoundsException" "java/lang/IndexOutOfBoundsException") (by decide +kernel)).use rfl) hcell hv hcl ?_
  refine lv_astore (lv' := [(5, .ref q9), (0, .ref o), (1, .int (x0)), (2, .int (x1)), (3, .int (x2)), (4, .ref out)]) hx hb dL_press_15 hl9 (by decide) rfl (fun sl9 hl9 => ?_)
  refine lv_iconst (v := 1) hx hb dL_press_17 (by decide) ?_
  exact hret _ _ _ _ _ sl9 _ _ () Mz9 rfl rfl rfl (Nat.le_of_ble_eq_true rfl) (Nat.le_of_ble_eq_true rfl) dL_press_18
set_option maxHeartbeats 4000000 in
set_option maxRecDepth 100000 in
theorem lk_press_2 (l : Launch) (D : va_G) (T : Nat → ClassId) (ea mi : Nat) (sa : Nat → Nat) (o out : Nat) (f : Nat → Int64) (x0 x1 x2 : Int32) {vs : List Value} {wt : va_W} {rm : Room} (hM : ZB l yX5_press wsX5_press rm (zW ea mi sa) D T ((o, .inr (6, vs)) :: wt) [.ref o, .int x0, .int x1, .int x2] "java/lang/IllegalArgumentException") (hrm : rm.cells = 1 ∧ rm.slots = 6) : ZIH l yL_press wsL_press (lkR rm 6 1 6) (zX ea mi sa) D T (S := Unit) (ouW out T f :: ((o, .inr (6, vs)) :: wt)) (fun _ => ouW out T f :: ((o, .inr (6, vs)) :: wt)) [.ref o, .int x0, .int x1, .int x2, .ref out] 2 1 6 := by
  refine z_inIHW (cc := cL_press) (maxL := 6) (hh := [(0, 12, 15, 13), (0, 12, 19, 15), (0, 12, 23, 21)]) (rt := .int) (by decide +kernel) rfl (Nat.le_of_ble_eq_true rfl) ?_
  intro p e s m args below meth c sl9 A Q Z hX htb hnm Mz9 hl9 hret
  have Z : zC p s m args c cL_press 6 RL wsL_press D T A := Z
  have hx := Z.1.1
  have hb := Z.1.2.1
  have hts := Z.1.2.2.2.2
  have hl9 : lv_has sl9 6 [(0, .ref o), (1, .int (x0)), (2, .int (x1)), (3, .int (x2)), (4, .ref out)] := hl9
  obtain ⟨is9, hp1, hp2, hp3⟩ := mid_put2 (ouW out T f) ((o, .inr (6, vs)) :: wt)
  refine lv_aload hx hb dL_press_0 (lv_at hl9 4 rfl) ?_
  refine lv_iconst (v := 0) hx hb dL_press_2 (by decide) ?_
  refine lv_aload_n hx hb dL_press_3 rfl (lv_at hl9 0 rfl) ?_
  refine lv_iload_n hx hb dL_press_4 rfl (lv_at hl9 1 rfl) ?_
  refine lv_iload_n hx hb dL_press_5 rfl (lv_at hl9 2 rfl) ?_
  refine lv_iload_n hx hb dL_press_6 rfl (lv_at hl9 3 rfl) ?_
  refine z_callVx (As := [.int (x0), .int (x1), .int (x2)]) (rest := [.int 0, .ref out]) (wc := ((o, .inr (6, vs)) :: wt)) (zW_k ea mi sa) hX.1 Z Mz9 hM (cwV 3 hts gL_press_X5_press rfl hrm.1 hrm.2 (by decide +kernel) ⟨Nat.le_refl _, Nat.le_refl _⟩) is9 hp1 hp2 (va_recv Z.2.1 Mz9.1 (ci := 6) (q0 := 1) rfl rfl) rfl hl9.1 (Nat.le_of_ble_eq_true rfl) dL_press_7 ⟨Nat.le_of_ble_eq_true rfl, Nat.le_of_ble_eq_true rfl⟩ rfl (fun Hp9 lc9 q9 ce Mz9 hcell hv hcl => ?_)
  refine vx_catch (name := "java/lang/IllegalArgumentException") Z.1.2.2.2.1 [(⟨0, 12, 15, 13⟩ : ExceptionTableEntry)] (⟨0, 12, 19, 15⟩ : ExceptionTableEntry) [(⟨0, 12, 23, 21⟩ : ExceptionTableEntry)] htb (List.forall_mem_cons.mpr ⟨Or.inr ⟨by decide, "java/lang/IndexOutOfBoundsException", hts (.classLink RL 13 "java/lang/IndexOutOfBoundsException") (by decide +kernel), hX.2.1⟩, fun _ hz => absurd hz List.not_mem_nil⟩) (by decide) (by decide) (hts (.classLink RL 15 "java/lang/IllegalArgumentException") (by decide +kernel)) ((zWw hX.1 (w := .castable "java/lang/IllegalArgumentException" "java/lang/IllegalArgumentException") (by decide +kernel)).use rfl) hcell hv hcl ?_
  refine lv_astore (lv' := [(5, .ref q9), (0, .ref o), (1, .int (x0)), (2, .int (x1)), (3, .int (x2)), (4, .ref out)]) hx hb dL_press_19 hl9 (by decide) rfl (fun sl9 hl9 => ?_)
  refine lv_iconst (v := 2) hx hb dL_press_21 (by decide) ?_
  exact hret _ _ _ _ _ sl9 _ _ () Mz9 rfl rfl rfl (Nat.le_of_ble_eq_true rfl) (Nat.le_of_ble_eq_true rfl) dL_press_22
set_option maxHeartbeats 4000000 in
set_option maxRecDepth 100000 in
theorem lk_press_3 (l : Launch) (D : va_G) (T : Nat → ClassId) (ea mi : Nat) (sa : Nat → Nat) (o out : Nat) (f : Nat → Int64) (x0 x1 x2 : Int32) {vs : List Value} {wt : va_W} {rm : Room} (hM : ZB l yX5_press wsX5_press rm (zW ea mi sa) D T ((o, .inr (6, vs)) :: wt) [.ref o, .int x0, .int x1, .int x2] "java/lang/IllegalStateException") (hrm : rm.cells = 1 ∧ rm.slots = 6) : ZIH l yL_press wsL_press (lkR rm 6 1 6) (zX ea mi sa) D T (S := Unit) (ouW out T f :: ((o, .inr (6, vs)) :: wt)) (fun _ => ouW out T f :: ((o, .inr (6, vs)) :: wt)) [.ref o, .int x0, .int x1, .int x2, .ref out] 3 1 6 := by
  refine z_inIHW (cc := cL_press) (maxL := 6) (hh := [(0, 12, 15, 13), (0, 12, 19, 15), (0, 12, 23, 21)]) (rt := .int) (by decide +kernel) rfl (Nat.le_of_ble_eq_true rfl) ?_
  intro p e s m args below meth c sl9 A Q Z hX htb hnm Mz9 hl9 hret
  have Z : zC p s m args c cL_press 6 RL wsL_press D T A := Z
  have hx := Z.1.1
  have hb := Z.1.2.1
  have hts := Z.1.2.2.2.2
  have hl9 : lv_has sl9 6 [(0, .ref o), (1, .int (x0)), (2, .int (x1)), (3, .int (x2)), (4, .ref out)] := hl9
  obtain ⟨is9, hp1, hp2, hp3⟩ := mid_put2 (ouW out T f) ((o, .inr (6, vs)) :: wt)
  refine lv_aload hx hb dL_press_0 (lv_at hl9 4 rfl) ?_
  refine lv_iconst (v := 0) hx hb dL_press_2 (by decide) ?_
  refine lv_aload_n hx hb dL_press_3 rfl (lv_at hl9 0 rfl) ?_
  refine lv_iload_n hx hb dL_press_4 rfl (lv_at hl9 1 rfl) ?_
  refine lv_iload_n hx hb dL_press_5 rfl (lv_at hl9 2 rfl) ?_
  refine lv_iload_n hx hb dL_press_6 rfl (lv_at hl9 3 rfl) ?_
  refine z_callVx (As := [.int (x0), .int (x1), .int (x2)]) (rest := [.int 0, .ref out]) (wc := ((o, .inr (6, vs)) :: wt)) (zW_k ea mi sa) hX.1 Z Mz9 hM (cwV 3 hts gL_press_X5_press rfl hrm.1 hrm.2 (by decide +kernel) ⟨Nat.le_refl _, Nat.le_refl _⟩) is9 hp1 hp2 (va_recv Z.2.1 Mz9.1 (ci := 6) (q0 := 1) rfl rfl) rfl hl9.1 (Nat.le_of_ble_eq_true rfl) dL_press_7 ⟨Nat.le_of_ble_eq_true rfl, Nat.le_of_ble_eq_true rfl⟩ rfl (fun Hp9 lc9 q9 ce Mz9 hcell hv hcl => ?_)
  refine vx_catch (name := "java/lang/IllegalStateException") Z.1.2.2.2.1 [(⟨0, 12, 15, 13⟩ : ExceptionTableEntry), (⟨0, 12, 19, 15⟩ : ExceptionTableEntry)] (⟨0, 12, 23, 21⟩ : ExceptionTableEntry) [] htb (List.forall_mem_cons.mpr ⟨Or.inr ⟨by decide, "java/lang/IndexOutOfBoundsException", hts (.classLink RL 13 "java/lang/IndexOutOfBoundsException") (by decide +kernel), hX.2.2.1⟩, List.forall_mem_cons.mpr ⟨Or.inr ⟨by decide, "java/lang/IllegalArgumentException", hts (.classLink RL 15 "java/lang/IllegalArgumentException") (by decide +kernel), hX.2.2.2⟩, fun _ hz => absurd hz List.not_mem_nil⟩⟩) (by decide) (by decide) (hts (.classLink RL 21 "java/lang/IllegalStateException") (by decide +kernel)) ((zWw hX.1 (w := .castable "java/lang/IllegalStateException" "java/lang/IllegalStateException") (by decide +kernel)).use rfl) hcell hv hcl ?_
  refine lv_astore (lv' := [(5, .ref q9), (0, .ref o), (1, .int (x0)), (2, .int (x1)), (3, .int (x2)), (4, .ref out)]) hx hb dL_press_23 hl9 (by decide) rfl (fun sl9 hl9 => ?_)
  refine lv_iconst (v := 3) hx hb dL_press_25 (by decide) ?_
  exact hret _ _ _ _ _ sl9 _ _ () Mz9 rfl rfl rfl (Nat.le_of_ble_eq_true rfl) (Nat.le_of_ble_eq_true rfl) dL_press_26
set_option maxHeartbeats 4000000 in
set_option maxRecDepth 100000 in
theorem lk_quench (l : Launch) (D : va_G) (T : Nat → ClassId) (ea mi : Nat) (sa : Nat → Nat) (o out : Nat) (f : Nat → Int64) (x0 x1 : Int32) {vs : List Value} {wt : va_W} {rm : Room} {S : Type} {w' : S → va_W} {mc ms : Nat} {rv : Int32} (hM : ZIH l yX5_quench wsX5_quench rm (zW ea mi sa) D T (S := S) ((o, .inr (6, vs)) :: wt) w' [.ref o, .int x0, .int x1] rv mc ms) (hrm : rm.cells = mc ∧ rm.slots = ms) (hf : ∀ (u : S) (j : Nat), j < ((o, .inr (6, vs)) :: wt).length → ((w' u).map Prod.fst)[j]? = (((o, .inr (6, vs)) :: wt).map Prod.fst)[j]?) (hlen : ∀ u : S, ((o, .inr (6, vs)) :: wt).length ≤ (w' u).length) : ZIH l yL_quench wsL_quench (lkR rm 5 mc ms) (zX ea mi sa) D T (S := S) (ouW out T f :: ((o, .inr (6, vs)) :: wt)) (fun u => (out, .inl (T 2, 1, .inr (.inl (vp_updL f (0 : Int32).toNatClampNeg rv.toInt64)))) :: w' u) [.ref o, .int x0, .int x1, .ref out] 0 mc ms := by
  refine z_inIHW (cc := cL_quench) (maxL := 5) (hh := [(0, 10, 13, 15), (0, 10, 17, 21)]) (rt := .int) (by decide +kernel) rfl (Nat.le_of_ble_eq_true rfl) ?_
  intro p e s m args below meth c sl9 A Q Z hX htb hnm Mz9 hl9 hret
  have Z : zC p s m args c cL_quench 5 RL wsL_quench D T A := Z
  have hx := Z.1.1
  have hb := Z.1.2.1
  have hts := Z.1.2.2.2.2
  have hl9 : lv_has sl9 5 [(0, .ref o), (1, .int (x0)), (2, .int (x1)), (3, .ref out)] := hl9
  obtain ⟨is9, hp1, hp2, hp3⟩ := mid_put2 (ouW out T f) ((o, .inr (6, vs)) :: wt)
  refine lv_aload_n hx hb dL_quench_0 rfl (lv_at hl9 3 rfl) ?_
  refine lv_iconst (v := 0) hx hb dL_quench_1 (by decide) ?_
  refine lv_aload_n hx hb dL_quench_2 rfl (lv_at hl9 0 rfl) ?_
  refine lv_iload_n hx hb dL_quench_3 rfl (lv_at hl9 1 rfl) ?_
  refine lv_iload_n hx hb dL_quench_4 rfl (lv_at hl9 2 rfl) ?_
  refine z_callViH (As := [.int (x0), .int (x1)]) (rest := [.int 0, .ref out]) (wc := ((o, .inr (6, vs)) :: wt)) (zW_k ea mi sa) hX.1 Z Mz9 hM (cwV 2 hts gL_quench_X5_quench rfl hrm.1 hrm.2 (by decide +kernel) ⟨Nat.le_refl _, Nat.le_refl _⟩) is9 hp1 hp2 hf hlen (va_recv Z.2.1 Mz9.1 (ci := 6) (q0 := 1) rfl rfl) rfl hl9.1 (Nat.le_of_ble_eq_true rfl) dL_quench_5 ⟨Nat.le_of_eq (Nat.zero_add _), Nat.le_of_eq (Nat.zero_add _)⟩ rfl (fun u Hp9 lc9 Mz9 => ?_)
  have Mz9 : zM D A s.heap (ouW out T f :: w' u) _ _ := zM_w (hp3 _ (hlen u)) Mz9
  refine lv_i2l (v := rv.toInt64) hx hb dL_quench_8 rfl ?_
  refine va_last hx hb Z.2.1 Mz9.1 Mz9.2.1 Mz9.2.2 0 2 (cA := T 2) (n := 1) (f := f) rfl rfl (i := 0) (by unfold vp_in; decide) dL_quench_9 (fun Hp9 lc9 hP9 hD9 hS9 => ?_)
  have Mz9 : zM D A s.heap ((out, .inl (T 2, 1, .inr (.inl (vp_updL f (0 : Int32).toNatClampNeg rv.toInt64)))) :: w' u) _ _ := ⟨hP9, hD9, hS9⟩
  refine lv_goto (tgt := 21) hx hb dL_quench_10 (by decide) ?_
  refine lv_iconst (v := 0) hx hb dL_quench_21 (by decide) ?_
  exact hret _ _ _ _ _ sl9 _ _ u Mz9 (rfl) rfl rfl (Nat.le_of_eq (Nat.zero_add _)) (Nat.le_of_eq (Nat.zero_add _)) dL_quench_22
set_option maxHeartbeats 4000000 in
set_option maxRecDepth 100000 in
theorem lk_quench_1 (l : Launch) (D : va_G) (T : Nat → ClassId) (ea mi : Nat) (sa : Nat → Nat) (o out : Nat) (f : Nat → Int64) (x0 x1 : Int32) {vs : List Value} {wt : va_W} {rm : Room} (hM : ZB l yX5_quench wsX5_quench rm (zW ea mi sa) D T ((o, .inr (6, vs)) :: wt) [.ref o, .int x0, .int x1] "java/lang/IllegalArgumentException") (hrm : rm.cells = 1 ∧ rm.slots = 6) : ZIH l yL_quench wsL_quench (lkR rm 5 1 6) (zX ea mi sa) D T (S := Unit) (ouW out T f :: ((o, .inr (6, vs)) :: wt)) (fun _ => ouW out T f :: ((o, .inr (6, vs)) :: wt)) [.ref o, .int x0, .int x1, .ref out] 1 1 6 := by
  refine z_inIHW (cc := cL_quench) (maxL := 5) (hh := [(0, 10, 13, 15), (0, 10, 17, 21)]) (rt := .int) (by decide +kernel) rfl (Nat.le_of_ble_eq_true rfl) ?_
  intro p e s m args below meth c sl9 A Q Z hX htb hnm Mz9 hl9 hret
  have Z : zC p s m args c cL_quench 5 RL wsL_quench D T A := Z
  have hx := Z.1.1
  have hb := Z.1.2.1
  have hts := Z.1.2.2.2.2
  have hl9 : lv_has sl9 5 [(0, .ref o), (1, .int (x0)), (2, .int (x1)), (3, .ref out)] := hl9
  obtain ⟨is9, hp1, hp2, hp3⟩ := mid_put2 (ouW out T f) ((o, .inr (6, vs)) :: wt)
  refine lv_aload_n hx hb dL_quench_0 rfl (lv_at hl9 3 rfl) ?_
  refine lv_iconst (v := 0) hx hb dL_quench_1 (by decide) ?_
  refine lv_aload_n hx hb dL_quench_2 rfl (lv_at hl9 0 rfl) ?_
  refine lv_iload_n hx hb dL_quench_3 rfl (lv_at hl9 1 rfl) ?_
  refine lv_iload_n hx hb dL_quench_4 rfl (lv_at hl9 2 rfl) ?_
  refine z_callVx (As := [.int (x0), .int (x1)]) (rest := [.int 0, .ref out]) (wc := ((o, .inr (6, vs)) :: wt)) (zW_k ea mi sa) hX.1 Z Mz9 hM (cwV 2 hts gL_quench_X5_quench rfl hrm.1 hrm.2 (by decide +kernel) ⟨Nat.le_refl _, Nat.le_refl _⟩) is9 hp1 hp2 (va_recv Z.2.1 Mz9.1 (ci := 6) (q0 := 1) rfl rfl) rfl hl9.1 (Nat.le_of_ble_eq_true rfl) dL_quench_5 ⟨Nat.le_of_ble_eq_true rfl, Nat.le_of_ble_eq_true rfl⟩ rfl (fun Hp9 lc9 q9 ce Mz9 hcell hv hcl => ?_)
  refine vx_catch (name := "java/lang/IllegalArgumentException") Z.1.2.2.2.1 [] (⟨0, 10, 13, 15⟩ : ExceptionTableEntry) [(⟨0, 10, 17, 21⟩ : ExceptionTableEntry)] htb (fun z hz => absurd hz List.not_mem_nil) (by decide) (by decide) (hts (.classLink RL 15 "java/lang/IllegalArgumentException") (by decide +kernel)) ((zWw hX.1 (w := .castable "java/lang/IllegalArgumentException" "java/lang/IllegalArgumentException") (by decide +kernel)).use rfl) hcell hv hcl ?_
  refine lv_astore (lv' := [(4, .ref q9), (0, .ref o), (1, .int (x0)), (2, .int (x1)), (3, .ref out)]) hx hb dL_quench_13 hl9 (by decide) rfl (fun sl9 hl9 => ?_)
  refine lv_iconst (v := 1) hx hb dL_quench_15 (by decide) ?_
  exact hret _ _ _ _ _ sl9 _ _ () Mz9 rfl rfl rfl (Nat.le_of_ble_eq_true rfl) (Nat.le_of_ble_eq_true rfl) dL_quench_16
set_option maxHeartbeats 4000000 in
set_option maxRecDepth 100000 in
theorem lk_quench_2 (l : Launch) (D : va_G) (T : Nat → ClassId) (ea mi : Nat) (sa : Nat → Nat) (o out : Nat) (f : Nat → Int64) (x0 x1 : Int32) {vs : List Value} {wt : va_W} {rm : Room} (hM : ZB l yX5_quench wsX5_quench rm (zW ea mi sa) D T ((o, .inr (6, vs)) :: wt) [.ref o, .int x0, .int x1] "java/lang/IllegalStateException") (hrm : rm.cells = 1 ∧ rm.slots = 6) : ZIH l yL_quench wsL_quench (lkR rm 5 1 6) (zX ea mi sa) D T (S := Unit) (ouW out T f :: ((o, .inr (6, vs)) :: wt)) (fun _ => ouW out T f :: ((o, .inr (6, vs)) :: wt)) [.ref o, .int x0, .int x1, .ref out] 2 1 6 := by
  refine z_inIHW (cc := cL_quench) (maxL := 5) (hh := [(0, 10, 13, 15), (0, 10, 17, 21)]) (rt := .int) (by decide +kernel) rfl (Nat.le_of_ble_eq_true rfl) ?_
  intro p e s m args below meth c sl9 A Q Z hX htb hnm Mz9 hl9 hret
  have Z : zC p s m args c cL_quench 5 RL wsL_quench D T A := Z
  have hx := Z.1.1
  have hb := Z.1.2.1
  have hts := Z.1.2.2.2.2
  have hl9 : lv_has sl9 5 [(0, .ref o), (1, .int (x0)), (2, .int (x1)), (3, .ref out)] := hl9
  obtain ⟨is9, hp1, hp2, hp3⟩ := mid_put2 (ouW out T f) ((o, .inr (6, vs)) :: wt)
  refine lv_aload_n hx hb dL_quench_0 rfl (lv_at hl9 3 rfl) ?_
  refine lv_iconst (v := 0) hx hb dL_quench_1 (by decide) ?_
  refine lv_aload_n hx hb dL_quench_2 rfl (lv_at hl9 0 rfl) ?_
  refine lv_iload_n hx hb dL_quench_3 rfl (lv_at hl9 1 rfl) ?_
  refine lv_iload_n hx hb dL_quench_4 rfl (lv_at hl9 2 rfl) ?_
  refine z_callVx (As := [.int (x0), .int (x1)]) (rest := [.int 0, .ref out]) (wc := ((o, .inr (6, vs)) :: wt)) (zW_k ea mi sa) hX.1 Z Mz9 hM (cwV 2 hts gL_quench_X5_quench rfl hrm.1 hrm.2 (by decide +kernel) ⟨Nat.le_refl _, Nat.le_refl _⟩) is9 hp1 hp2 (va_recv Z.2.1 Mz9.1 (ci := 6) (q0 := 1) rfl rfl) rfl hl9.1 (Nat.le_of_ble_eq_true rfl) dL_quench_5 ⟨Nat.le_of_ble_eq_true rfl, Nat.le_of_ble_eq_true rfl⟩ rfl (fun Hp9 lc9 q9 ce Mz9 hcell hv hcl => ?_)
  refine vx_catch (name := "java/lang/IllegalStateException") Z.1.2.2.2.1 [(⟨0, 10, 13, 15⟩ : ExceptionTableEntry)] (⟨0, 10, 17, 21⟩ : ExceptionTableEntry) [] htb (List.forall_mem_cons.mpr ⟨Or.inr ⟨by decide, "java/lang/IllegalArgumentException", hts (.classLink RL 15 "java/lang/IllegalArgumentException") (by decide +kernel), hX.2.2.2⟩, fun _ hz => absurd hz List.not_mem_nil⟩) (by decide) (by decide) (hts (.classLink RL 21 "java/lang/IllegalStateException") (by decide +kernel)) ((zWw hX.1 (w := .castable "java/lang/IllegalStateException" "java/lang/IllegalStateException") (by decide +kernel)).use rfl) hcell hv hcl ?_
  refine lv_astore (lv' := [(4, .ref q9), (0, .ref o), (1, .int (x0)), (2, .int (x1)), (3, .ref out)]) hx hb dL_quench_17 hl9 (by decide) rfl (fun sl9 hl9 => ?_)
  refine lv_iconst (v := 2) hx hb dL_quench_19 (by decide) ?_
  exact hret _ _ _ _ _ sl9 _ _ () Mz9 rfl rfl rfl (Nat.le_of_ble_eq_true rfl) (Nat.le_of_ble_eq_true rfl) dL_quench_20
set_option maxHeartbeats 4000000 in
set_option maxRecDepth 100000 in
theorem lk_temper (l : Launch) (D : va_G) (T : Nat → ClassId) (ea mi : Nat) (sa : Nat → Nat) (o out : Nat) (f : Nat → Int64) (x0 x1 : Int32) {vs : List Value} {wt : va_W} {rm : Room} {S : Type} {w' : S → va_W} {mc ms : Nat} {rv : Int32} (hM : ZIH l yX5_temper wsX5_temper rm (zW ea mi sa) D T (S := S) ((o, .inr (6, vs)) :: wt) w' [.ref o, .int x0, .int x1] rv mc ms) (hrm : rm.cells = mc ∧ rm.slots = ms) (hf : ∀ (u : S) (j : Nat), j < ((o, .inr (6, vs)) :: wt).length → ((w' u).map Prod.fst)[j]? = (((o, .inr (6, vs)) :: wt).map Prod.fst)[j]?) (hlen : ∀ u : S, ((o, .inr (6, vs)) :: wt).length ≤ (w' u).length) : ZIH l yL_temper wsL_temper (lkR rm 4 mc ms) (zX ea mi sa) D T (S := S) (ouW out T f :: ((o, .inr (6, vs)) :: wt)) (fun u => (out, .inl (T 2, 1, .inr (.inl (vp_updL f (0 : Int32).toNatClampNeg rv.toInt64)))) :: w' u) [.ref o, .int x0, .int x1, .ref out] 0 mc ms := by
  refine z_inIHW (cc := cL_temper) (maxL := 5) (hh := [(0, 10, 13, 13), (0, 10, 17, 15), (0, 10, 21, 21)]) (rt := .int) (by decide +kernel) rfl (Nat.le_of_ble_eq_true rfl) ?_
  intro p e s m args below meth c sl9 A Q Z hX htb hnm Mz9 hl9 hret
  have Z : zC p s m args c cL_temper 5 RL wsL_temper D T A := Z
  have hx := Z.1.1
  have hb := Z.1.2.1
  have hts := Z.1.2.2.2.2
  have hl9 : lv_has sl9 5 [(0, .ref o), (1, .int (x0)), (2, .int (x1)), (3, .ref out)] := hl9
  obtain ⟨is9, hp1, hp2, hp3⟩ := mid_put2 (ouW out T f) ((o, .inr (6, vs)) :: wt)
  refine lv_aload_n hx hb dL_temper_0 rfl (lv_at hl9 3 rfl) ?_
  refine lv_iconst (v := 0) hx hb dL_temper_1 (by decide) ?_
  refine lv_aload_n hx hb dL_temper_2 rfl (lv_at hl9 0 rfl) ?_
  refine lv_iload_n hx hb dL_temper_3 rfl (lv_at hl9 1 rfl) ?_
  refine lv_iload_n hx hb dL_temper_4 rfl (lv_at hl9 2 rfl) ?_
  refine z_callViH (As := [.int (x0), .int (x1)]) (rest := [.int 0, .ref out]) (wc := ((o, .inr (6, vs)) :: wt)) (zW_k ea mi sa) hX.1 Z Mz9 hM (cwV 2 hts gL_temper_X5_temper rfl hrm.1 hrm.2 (by decide +kernel) ⟨Nat.le_refl _, Nat.le_refl _⟩) is9 hp1 hp2 hf hlen (va_recv Z.2.1 Mz9.1 (ci := 6) (q0 := 1) rfl rfl) rfl hl9.1 (Nat.le_of_ble_eq_true rfl) dL_temper_5 ⟨Nat.le_of_eq (Nat.zero_add _), Nat.le_of_eq (Nat.zero_add _)⟩ rfl (fun u Hp9 lc9 Mz9 => ?_)
  have Mz9 : zM D A s.heap (ouW out T f :: w' u) _ _ := zM_w (hp3 _ (hlen u)) Mz9
  refine lv_i2l (v := rv.toInt64) hx hb dL_temper_8 rfl ?_
  refine va_last hx hb Z.2.1 Mz9.1 Mz9.2.1 Mz9.2.2 0 2 (cA := T 2) (n := 1) (f := f) rfl rfl (i := 0) (by unfold vp_in; decide) dL_temper_9 (fun Hp9 lc9 hP9 hD9 hS9 => ?_)
  have Mz9 : zM D A s.heap ((out, .inl (T 2, 1, .inr (.inl (vp_updL f (0 : Int32).toNatClampNeg rv.toInt64)))) :: w' u) _ _ := ⟨hP9, hD9, hS9⟩
  refine lv_goto (tgt := 25) hx hb dL_temper_10 (by decide) ?_
  refine lv_iconst (v := 0) hx hb dL_temper_25 (by decide) ?_
  exact hret _ _ _ _ _ sl9 _ _ u Mz9 (rfl) rfl rfl (Nat.le_of_eq (Nat.zero_add _)) (Nat.le_of_eq (Nat.zero_add _)) dL_temper_26
set_option maxHeartbeats 4000000 in
set_option maxRecDepth 100000 in
theorem lk_temper_1 (l : Launch) (D : va_G) (T : Nat → ClassId) (ea mi : Nat) (sa : Nat → Nat) (o out : Nat) (f : Nat → Int64) (x0 x1 : Int32) {vs : List Value} {wt : va_W} {rm : Room} (hM : ZB l yX5_temper wsX5_temper rm (zW ea mi sa) D T ((o, .inr (6, vs)) :: wt) [.ref o, .int x0, .int x1] "java/lang/IndexOutOfBoundsException") (hrm : rm.cells = 1 ∧ rm.slots = 6) : ZIH l yL_temper wsL_temper (lkR rm 4 1 6) (zX ea mi sa) D T (S := Unit) (ouW out T f :: ((o, .inr (6, vs)) :: wt)) (fun _ => ouW out T f :: ((o, .inr (6, vs)) :: wt)) [.ref o, .int x0, .int x1, .ref out] 1 1 6 := by
  refine z_inIHW (cc := cL_temper) (maxL := 5) (hh := [(0, 10, 13, 13), (0, 10, 17, 15), (0, 10, 21, 21)]) (rt := .int) (by decide +kernel) rfl (Nat.le_of_ble_eq_true rfl) ?_
  intro p e s m args below meth c sl9 A Q Z hX htb hnm Mz9 hl9 hret
  have Z : zC p s m args c cL_temper 5 RL wsL_temper D T A := Z
  have hx := Z.1.1
  have hb := Z.1.2.1
  have hts := Z.1.2.2.2.2
  have hl9 : lv_has sl9 5 [(0, .ref o), (1, .int (x0)), (2, .int (x1)), (3, .ref out)] := hl9
  obtain ⟨is9, hp1, hp2, hp3⟩ := mid_put2 (ouW out T f) ((o, .inr (6, vs)) :: wt)
  refine lv_aload_n hx hb dL_temper_0 rfl (lv_at hl9 3 rfl) ?_
  refine lv_iconst (v := 0) hx hb dL_temper_1 (by decide) ?_
  refine lv_aload_n hx hb dL_temper_2 rfl (lv_at hl9 0 rfl) ?_
  refine lv_iload_n hx hb dL_temper_3 rfl (lv_at hl9 1 rfl) ?_
  refine lv_iload_n hx hb dL_temper_4 rfl (lv_at hl9 2 rfl) ?_
  refine z_callVx (As := [.int (x0), .int (x1)]) (rest := [.int 0, .ref out]) (wc := ((o, .inr (6, vs)) :: wt)) (zW_k ea mi sa) hX.1 Z Mz9 hM (cwV 2 hts gL_temper_X5_temper rfl hrm.1 hrm.2 (by decide +kernel) ⟨Nat.le_refl _, Nat.le_refl _⟩) is9 hp1 hp2 (va_recv Z.2.1 Mz9.1 (ci := 6) (q0 := 1) rfl rfl) rfl hl9.1 (Nat.le_of_ble_eq_true rfl) dL_temper_5 ⟨Nat.le_of_ble_eq_true rfl, Nat.le_of_ble_eq_true rfl⟩ rfl (fun Hp9 lc9 q9 ce Mz9 hcell hv hcl => ?_)
  refine vx_catch (name := "java/lang/IndexOutOfBoundsException") Z.1.2.2.2.1 [] (⟨0, 10, 13, 13⟩ : ExceptionTableEntry) [(⟨0, 10, 17, 15⟩ : ExceptionTableEntry), (⟨0, 10, 21, 21⟩ : ExceptionTableEntry)] htb (fun z hz => absurd hz List.not_mem_nil) (by decide) (by decide) (hts (.classLink RL 13 "java/lang/IndexOutOfBoundsException") (by decide +kernel)) ((zWw hX.1 (w := .castable "java/lang/IndexOutOfBoundsException" "java/lang/IndexOutOfBoundsException") (by decide +kernel)).use rfl) hcell hv hcl ?_
  refine lv_astore (lv' := [(4, .ref q9), (0, .ref o), (1, .int (x0)), (2, .int (x1)), (3, .ref out)]) hx hb dL_temper_13 hl9 (by decide) rfl (fun sl9 hl9 => ?_)
  refine lv_iconst (v := 1) hx hb dL_temper_15 (by decide) ?_
  exact hret _ _ _ _ _ sl9 _ _ () Mz9 rfl rfl rfl (Nat.le_of_ble_eq_true rfl) (Nat.le_of_ble_eq_true rfl) dL_temper_16
set_option maxHeartbeats 4000000 in
set_option maxRecDepth 100000 in
theorem lk_temper_2 (l : Launch) (D : va_G) (T : Nat → ClassId) (ea mi : Nat) (sa : Nat → Nat) (o out : Nat) (f : Nat → Int64) (x0 x1 : Int32) {vs : List Value} {wt : va_W} {rm : Room} (hM : ZB l yX5_temper wsX5_temper rm (zW ea mi sa) D T ((o, .inr (6, vs)) :: wt) [.ref o, .int x0, .int x1] "java/lang/IllegalArgumentException") (hrm : rm.cells = 1 ∧ rm.slots = 6) : ZIH l yL_temper wsL_temper (lkR rm 4 1 6) (zX ea mi sa) D T (S := Unit) (ouW out T f :: ((o, .inr (6, vs)) :: wt)) (fun _ => ouW out T f :: ((o, .inr (6, vs)) :: wt)) [.ref o, .int x0, .int x1, .ref out] 2 1 6 := by
  refine z_inIHW (cc := cL_temper) (maxL := 5) (hh := [(0, 10, 13, 13), (0, 10, 17, 15), (0, 10, 21, 21)]) (rt := .int) (by decide +kernel) rfl (Nat.le_of_ble_eq_true rfl) ?_
  intro p e s m args below meth c sl9 A Q Z hX htb hnm Mz9 hl9 hret
  have Z : zC p s m args c cL_temper 5 RL wsL_temper D T A := Z
  have hx := Z.1.1
  have hb := Z.1.2.1
  have hts := Z.1.2.2.2.2
  have hl9 : lv_has sl9 5 [(0, .ref o), (1, .int (x0)), (2, .int (x1)), (3, .ref out)] := hl9
  obtain ⟨is9, hp1, hp2, hp3⟩ := mid_put2 (ouW out T f) ((o, .inr (6, vs)) :: wt)
  refine lv_aload_n hx hb dL_temper_0 rfl (lv_at hl9 3 rfl) ?_
  refine lv_iconst (v := 0) hx hb dL_temper_1 (by decide) ?_
  refine lv_aload_n hx hb dL_temper_2 rfl (lv_at hl9 0 rfl) ?_
  refine lv_iload_n hx hb dL_temper_3 rfl (lv_at hl9 1 rfl) ?_
  refine lv_iload_n hx hb dL_temper_4 rfl (lv_at hl9 2 rfl) ?_
  refine z_callVx (As := [.int (x0), .int (x1)]) (rest := [.int 0, .ref out]) (wc := ((o, .inr (6, vs)) :: wt)) (zW_k ea mi sa) hX.1 Z Mz9 hM (cwV 2 hts gL_temper_X5_temper rfl hrm.1 hrm.2 (by decide +kernel) ⟨Nat.le_refl _, Nat.le_refl _⟩) is9 hp1 hp2 (va_recv Z.2.1 Mz9.1 (ci := 6) (q0 := 1) rfl rfl) rfl hl9.1 (Nat.le_of_ble_eq_true rfl) dL_temper_5 ⟨Nat.le_of_ble_eq_true rfl, Nat.le_of_ble_eq_true rfl⟩ rfl (fun Hp9 lc9 q9 ce Mz9 hcell hv hcl => ?_)
  refine vx_catch (name := "java/lang/IllegalArgumentException") Z.1.2.2.2.1 [(⟨0, 10, 13, 13⟩ : ExceptionTableEntry)] (⟨0, 10, 17, 15⟩ : ExceptionTableEntry) [(⟨0, 10, 21, 21⟩ : ExceptionTableEntry)] htb (List.forall_mem_cons.mpr ⟨Or.inr ⟨by decide, "java/lang/IndexOutOfBoundsException", hts (.classLink RL 13 "java/lang/IndexOutOfBoundsException") (by decide +kernel), hX.2.1⟩, fun _ hz => absurd hz List.not_mem_nil⟩) (by decide) (by decide) (hts (.classLink RL 15 "java/lang/IllegalArgumentException") (by decide +kernel)) ((zWw hX.1 (w := .castable "java/lang/IllegalArgumentException" "java/lang/IllegalArgumentException") (by decide +kernel)).use rfl) hcell hv hcl ?_
  refine lv_astore (lv' := [(4, .ref q9), (0, .ref o), (1, .int (x0)), (2, .int (x1)), (3, .ref out)]) hx hb dL_temper_17 hl9 (by decide) rfl (fun sl9 hl9 => ?_)
  refine lv_iconst (v := 2) hx hb dL_temper_19 (by decide) ?_
  exact hret _ _ _ _ _ sl9 _ _ () Mz9 rfl rfl rfl (Nat.le_of_ble_eq_true rfl) (Nat.le_of_ble_eq_true rfl) dL_temper_20
set_option maxHeartbeats 4000000 in
set_option maxRecDepth 100000 in
theorem lk_temper_3 (l : Launch) (D : va_G) (T : Nat → ClassId) (ea mi : Nat) (sa : Nat → Nat) (o out : Nat) (f : Nat → Int64) (x0 x1 : Int32) {vs : List Value} {wt : va_W} {rm : Room} (hM : ZB l yX5_temper wsX5_temper rm (zW ea mi sa) D T ((o, .inr (6, vs)) :: wt) [.ref o, .int x0, .int x1] "java/lang/IllegalStateException") (hrm : rm.cells = 1 ∧ rm.slots = 6) : ZIH l yL_temper wsL_temper (lkR rm 4 1 6) (zX ea mi sa) D T (S := Unit) (ouW out T f :: ((o, .inr (6, vs)) :: wt)) (fun _ => ouW out T f :: ((o, .inr (6, vs)) :: wt)) [.ref o, .int x0, .int x1, .ref out] 3 1 6 := by
  refine z_inIHW (cc := cL_temper) (maxL := 5) (hh := [(0, 10, 13, 13), (0, 10, 17, 15), (0, 10, 21, 21)]) (rt := .int) (by decide +kernel) rfl (Nat.le_of_ble_eq_true rfl) ?_
  intro p e s m args below meth c sl9 A Q Z hX htb hnm Mz9 hl9 hret
  have Z : zC p s m args c cL_temper 5 RL wsL_temper D T A := Z
  have hx := Z.1.1
  have hb := Z.1.2.1
  have hts := Z.1.2.2.2.2
  have hl9 : lv_has sl9 5 [(0, .ref o), (1, .int (x0)), (2, .int (x1)), (3, .ref out)] := hl9
  obtain ⟨is9, hp1, hp2, hp3⟩ := mid_put2 (ouW out T f) ((o, .inr (6, vs)) :: wt)
  refine lv_aload_n hx hb dL_temper_0 rfl (lv_at hl9 3 rfl) ?_
  refine lv_iconst (v := 0) hx hb dL_temper_1 (by decide) ?_
  refine lv_aload_n hx hb dL_temper_2 rfl (lv_at hl9 0 rfl) ?_
  refine lv_iload_n hx hb dL_temper_3 rfl (lv_at hl9 1 rfl) ?_
  refine lv_iload_n hx hb dL_temper_4 rfl (lv_at hl9 2 rfl) ?_
  refine z_callVx (As := [.int (x0), .int (x1)]) (rest := [.int 0, .ref out]) (wc := ((o, .inr (6, vs)) :: wt)) (zW_k ea mi sa) hX.1 Z Mz9 hM (cwV 2 hts gL_temper_X5_temper rfl hrm.1 hrm.2 (by decide +kernel) ⟨Nat.le_refl _, Nat.le_refl _⟩) is9 hp1 hp2 (va_recv Z.2.1 Mz9.1 (ci := 6) (q0 := 1) rfl rfl) rfl hl9.1 (Nat.le_of_ble_eq_true rfl) dL_temper_5 ⟨Nat.le_of_ble_eq_true rfl, Nat.le_of_ble_eq_true rfl⟩ rfl (fun Hp9 lc9 q9 ce Mz9 hcell hv hcl => ?_)
  refine vx_catch (name := "java/lang/IllegalStateException") Z.1.2.2.2.1 [(⟨0, 10, 13, 13⟩ : ExceptionTableEntry), (⟨0, 10, 17, 15⟩ : ExceptionTableEntry)] (⟨0, 10, 21, 21⟩ : ExceptionTableEntry) [] htb (List.forall_mem_cons.mpr ⟨Or.inr ⟨by decide, "java/lang/IndexOutOfBoundsException", hts (.classLink RL 13 "java/lang/IndexOutOfBoundsException") (by decide +kernel), hX.2.2.1⟩, List.forall_mem_cons.mpr ⟨Or.inr ⟨by decide, "java/lang/IllegalArgumentException", hts (.classLink RL 15 "java/lang/IllegalArgumentException") (by decide +kernel), hX.2.2.2⟩, fun _ hz => absurd hz List.not_mem_nil⟩⟩) (by decide) (by decide) (hts (.classLink RL 21 "java/lang/IllegalStateException") (by decide +kernel)) ((zWw hX.1 (w := .castable "java/lang/IllegalStateException" "java/lang/IllegalStateException") (by decide +kernel)).use rfl) hcell hv hcl ?_
  refine lv_astore (lv' := [(4, .ref q9), (0, .ref o), (1, .int (x0)), (2, .int (x1)), (3, .ref out)]) hx hb dL_temper_21 hl9 (by decide) rfl (fun sl9 hl9 => ?_)
  refine lv_iconst (v := 3) hx hb dL_temper_23 (by decide) ?_
  exact hret _ _ _ _ _ sl9 _ _ () Mz9 rfl rfl rfl (Nat.le_of_ble_eq_true rfl) (Nat.le_of_ble_eq_true rfl) dL_temper_24
set_option maxHeartbeats 4000000 in
set_option maxRecDepth 100000 in
theorem lk_hardness (l : Launch) (D : va_G) (T : Nat → ClassId) (ea mi : Nat) (sa : Nat → Nat) (o out : Nat) (f : Nat → Int64) (x0 x1 : Int32) {vs : List Value} {wt : va_W} {rm : Room} {S : Type} {w' : S → va_W} {mc ms : Nat} {rv : Int32} (hM : ZIH l yX5_hardness wsX5_hardness rm (zW ea mi sa) D T (S := S) ((o, .inr (6, vs)) :: wt) w' [.ref o, .int x0, .int x1] rv mc ms) (hrm : rm.cells = mc ∧ rm.slots = ms) (hf : ∀ (u : S) (j : Nat), j < ((o, .inr (6, vs)) :: wt).length → ((w' u).map Prod.fst)[j]? = (((o, .inr (6, vs)) :: wt).map Prod.fst)[j]?) (hlen : ∀ u : S, ((o, .inr (6, vs)) :: wt).length ≤ (w' u).length) : ZIH l yL_hardness wsL_hardness (lkR rm 4 mc ms) (zX ea mi sa) D T (S := S) (ouW out T f :: ((o, .inr (6, vs)) :: wt)) (fun u => (out, .inl (T 2, 1, .inr (.inl (vp_updL f (0 : Int32).toNatClampNeg rv.toInt64)))) :: w' u) [.ref o, .int x0, .int x1, .ref out] 0 mc ms := by
  refine z_inIHW (cc := cL_hardness) (maxL := 5) (hh := [(0, 10, 13, 13)]) (rt := .int) (by decide +kernel) rfl (Nat.le_of_ble_eq_true rfl) ?_
  intro p e s m args below meth c sl9 A Q Z hX htb hnm Mz9 hl9 hret
  have Z : zC p s m args c cL_hardness 5 RL wsL_hardness D T A := Z
  have hx := Z.1.1
  have hb := Z.1.2.1
  have hts := Z.1.2.2.2.2
  have hl9 : lv_has sl9 5 [(0, .ref o), (1, .int (x0)), (2, .int (x1)), (3, .ref out)] := hl9
  obtain ⟨is9, hp1, hp2, hp3⟩ := mid_put2 (ouW out T f) ((o, .inr (6, vs)) :: wt)
  refine lv_aload_n hx hb dL_hardness_0 rfl (lv_at hl9 3 rfl) ?_
  refine lv_iconst (v := 0) hx hb dL_hardness_1 (by decide) ?_
  refine lv_aload_n hx hb dL_hardness_2 rfl (lv_at hl9 0 rfl) ?_
  refine lv_iload_n hx hb dL_hardness_3 rfl (lv_at hl9 1 rfl) ?_
  refine lv_iload_n hx hb dL_hardness_4 rfl (lv_at hl9 2 rfl) ?_
  refine z_callViH (As := [.int (x0), .int (x1)]) (rest := [.int 0, .ref out]) (wc := ((o, .inr (6, vs)) :: wt)) (zW_k ea mi sa) hX.1 Z Mz9 hM (cwV 2 hts gL_hardness_X5_hardness rfl hrm.1 hrm.2 (by decide +kernel) ⟨Nat.le_refl _, Nat.le_refl _⟩) is9 hp1 hp2 hf hlen (va_recv Z.2.1 Mz9.1 (ci := 6) (q0 := 1) rfl rfl) rfl hl9.1 (Nat.le_of_ble_eq_true rfl) dL_hardness_5 ⟨Nat.le_of_eq (Nat.zero_add _), Nat.le_of_eq (Nat.zero_add _)⟩ rfl (fun u Hp9 lc9 Mz9 => ?_)
  have Mz9 : zM D A s.heap (ouW out T f :: w' u) _ _ := zM_w (hp3 _ (hlen u)) Mz9
  refine lv_i2l (v := rv.toInt64) hx hb dL_hardness_8 rfl ?_
  refine va_last hx hb Z.2.1 Mz9.1 Mz9.2.1 Mz9.2.2 0 2 (cA := T 2) (n := 1) (f := f) rfl rfl (i := 0) (by unfold vp_in; decide) dL_hardness_9 (fun Hp9 lc9 hP9 hD9 hS9 => ?_)
  have Mz9 : zM D A s.heap ((out, .inl (T 2, 1, .inr (.inl (vp_updL f (0 : Int32).toNatClampNeg rv.toInt64)))) :: w' u) _ _ := ⟨hP9, hD9, hS9⟩
  refine lv_goto (tgt := 17) hx hb dL_hardness_10 (by decide) ?_
  refine lv_iconst (v := 0) hx hb dL_hardness_17 (by decide) ?_
  exact hret _ _ _ _ _ sl9 _ _ u Mz9 (rfl) rfl rfl (Nat.le_of_eq (Nat.zero_add _)) (Nat.le_of_eq (Nat.zero_add _)) dL_hardness_18
set_option maxHeartbeats 4000000 in
set_option maxRecDepth 100000 in
theorem lk_hardness_1 (l : Launch) (D : va_G) (T : Nat → ClassId) (ea mi : Nat) (sa : Nat → Nat) (o out : Nat) (f : Nat → Int64) (x0 x1 : Int32) {vs : List Value} {wt : va_W} {rm : Room} (hM : ZB l yX5_hardness wsX5_hardness rm (zW ea mi sa) D T ((o, .inr (6, vs)) :: wt) [.ref o, .int x0, .int x1] "java/lang/IndexOutOfBoundsException") (hrm : rm.cells = 1 ∧ rm.slots = 6) : ZIH l yL_hardness wsL_hardness (lkR rm 4 1 6) (zX ea mi sa) D T (S := Unit) (ouW out T f :: ((o, .inr (6, vs)) :: wt)) (fun _ => ouW out T f :: ((o, .inr (6, vs)) :: wt)) [.ref o, .int x0, .int x1, .ref out] 1 1 6 := by
  refine z_inIHW (cc := cL_hardness) (maxL := 5) (hh := [(0, 10, 13, 13)]) (rt := .int) (by decide +kernel) rfl (Nat.le_of_ble_eq_true rfl) ?_
  intro p e s m args below meth c sl9 A Q Z hX htb hnm Mz9 hl9 hret
  have Z : zC p s m args c cL_hardness 5 RL wsL_hardness D T A := Z
  have hx := Z.1.1
  have hb := Z.1.2.1
  have hts := Z.1.2.2.2.2
  have hl9 : lv_has sl9 5 [(0, .ref o), (1, .int (x0)), (2, .int (x1)), (3, .ref out)] := hl9
  obtain ⟨is9, hp1, hp2, hp3⟩ := mid_put2 (ouW out T f) ((o, .inr (6, vs)) :: wt)
  refine lv_aload_n hx hb dL_hardness_0 rfl (lv_at hl9 3 rfl) ?_
  refine lv_iconst (v := 0) hx hb dL_hardness_1 (by decide) ?_
  refine lv_aload_n hx hb dL_hardness_2 rfl (lv_at hl9 0 rfl) ?_
  refine lv_iload_n hx hb dL_hardness_3 rfl (lv_at hl9 1 rfl) ?_
  refine lv_iload_n hx hb dL_hardness_4 rfl (lv_at hl9 2 rfl) ?_
  refine z_callVx (As := [.int (x0), .int (x1)]) (rest := [.int 0, .ref out]) (wc := ((o, .inr (6, vs)) :: wt)) (zW_k ea mi sa) hX.1 Z Mz9 hM (cwV 2 hts gL_hardness_X5_hardness rfl hrm.1 hrm.2 (by decide +kernel) ⟨Nat.le_refl _, Nat.le_refl _⟩) is9 hp1 hp2 (va_recv Z.2.1 Mz9.1 (ci := 6) (q0 := 1) rfl rfl) rfl hl9.1 (Nat.le_of_ble_eq_true rfl) dL_hardness_5 ⟨Nat.le_of_ble_eq_true rfl, Nat.le_of_ble_eq_true rfl⟩ rfl (fun Hp9 lc9 q9 ce Mz9 hcell hv hcl => ?_)
  refine vx_catch (name := "java/lang/IndexOutOfBoundsException") Z.1.2.2.2.1 [] (⟨0, 10, 13, 13⟩ : ExceptionTableEntry) [] htb (fun z hz => absurd hz List.not_mem_nil) (by decide) (by decide) (hts (.classLink RL 13 "java/lang/IndexOutOfBoundsException") (by decide +kernel)) ((zWw hX.1 (w := .castable "java/lang/IndexOutOfBoundsException" "java/lang/IndexOutOfBoundsException") (by decide +kernel)).use rfl) hcell hv hcl ?_
  refine lv_astore (lv' := [(4, .ref q9), (0, .ref o), (1, .int (x0)), (2, .int (x1)), (3, .ref out)]) hx hb dL_hardness_13 hl9 (by decide) rfl (fun sl9 hl9 => ?_)
  refine lv_iconst (v := 1) hx hb dL_hardness_15 (by decide) ?_
  exact hret _ _ _ _ _ sl9 _ _ () Mz9 rfl rfl rfl (Nat.le_of_ble_eq_true rfl) (Nat.le_of_ble_eq_true rfl) dL_hardness_16
set_option maxHeartbeats 4000000 in
set_option maxRecDepth 100000 in
theorem lk_test (l : Launch) (D : va_G) (T : Nat → ClassId) (ea mi : Nat) (sa : Nat → Nat) (o out : Nat) (f : Nat → Int64) (x0 : Int32) {vs : List Value} {wt : va_W} {rm : Room} {S : Type} {w' : S → va_W} {mc ms : Nat} {rv : Int32} (hM : ZIH l yX5_test wsX5_test rm (zW ea mi sa) D T (S := S) ((o, .inr (6, vs)) :: wt) w' [.ref o, .int x0] rv mc ms) (hrm : rm.cells = mc ∧ rm.slots = ms) (hf : ∀ (u : S) (j : Nat), j < ((o, .inr (6, vs)) :: wt).length → ((w' u).map Prod.fst)[j]? = (((o, .inr (6, vs)) :: wt).map Prod.fst)[j]?) (hlen : ∀ u : S, ((o, .inr (6, vs)) :: wt).length ≤ (w' u).length) : ZIH l yL_test wsL_test (lkR rm 3 mc ms) (zX ea mi sa) D T (S := S) (ouW out T f :: ((o, .inr (6, vs)) :: wt)) (fun u => (out, .inl (T 2, 1, .inr (.inl (vp_updL f (0 : Int32).toNatClampNeg rv.toInt64)))) :: w' u) [.ref o, .int x0, .ref out] 0 mc ms := by
  refine z_inIHW (cc := cL_test) (maxL := 4) (hh := [(0, 9, 12, 13), (0, 9, 15, 21)]) (rt := .int) (by decide +kernel) rfl (Nat.le_of_ble_eq_true rfl) ?_
  intro p e s m args below meth c sl9 A Q Z hX htb hnm Mz9 hl9 hret
  have Z : zC p s m args c cL_test 4 RL wsL_test D T A := Z
  have hx := Z.1.1
  have hb := Z.1.2.1
  have hts := Z.1.2.2.2.2
  have hl9 : lv_has sl9 4 [(0, .ref o), (1, .int (x0)), (2, .ref out)] := hl9
  obtain ⟨is9, hp1, hp2, hp3⟩ := mid_put2 (ouW out T f) ((o, .inr (6, vs)) :: wt)
  refine lv_aload_n hx hb dL_test_0 rfl (lv_at hl9 2 rfl) ?_
  refine lv_iconst (v := 0) hx hb dL_test_1 (by decide) ?_
  refine lv_aload_n hx hb dL_test_2 rfl (lv_at hl9 0 rfl) ?_
  refine lv_iload_n hx hb dL_test_3 rfl (lv_at hl9 1 rfl) ?_
  refine z_callViH (As := [.int (x0)]) (rest := [.int 0, .ref out]) (wc := ((o, .inr (6, vs)) :: wt)) (zW_k ea mi sa) hX.1 Z Mz9 hM (cwV 1 hts gL_test_X5_test rfl hrm.1 hrm.2 (by decide +kernel) ⟨Nat.le_refl _, Nat.le_refl _⟩) is9 hp1 hp2 hf hlen (va_recv Z.2.1 Mz9.1 (ci := 6) (q0 := 1) rfl rfl) rfl hl9.1 (Nat.le_of_ble_eq_true rfl) dL_test_4 ⟨Nat.le_of_eq (Nat.zero_add _), Nat.le_of_eq (Nat.zero_add _)⟩ rfl (fun u Hp9 lc9 Mz9 => ?_)
  have Mz9 : zM D A s.heap (ouW out T f :: w' u) _ _ := zM_w (hp3 _ (hlen u)) Mz9
  refine lv_i2l (v := rv.toInt64) hx hb dL_test_7 rfl ?_
  refine va_last hx hb Z.2.1 Mz9.1 Mz9.2.1 Mz9.2.2 0 2 (cA := T 2) (n := 1) (f := f) rfl rfl (i := 0) (by unfold vp_in; decide) dL_test_8 (fun Hp9 lc9 hP9 hD9 hS9 => ?_)
  have Mz9 : zM D A s.heap ((out, .inl (T 2, 1, .inr (.inl (vp_updL f (0 : Int32).toNatClampNeg rv.toInt64)))) :: w' u) _ _ := ⟨hP9, hD9, hS9⟩
  refine lv_goto (tgt := 18) hx hb dL_test_9 (by decide) ?_
  refine lv_iconst (v := 0) hx hb dL_test_18 (by decide) ?_
  exact hret _ _ _ _ _ sl9 _ _ u Mz9 (rfl) rfl rfl (Nat.le_of_eq (Nat.zero_add _)) (Nat.le_of_eq (Nat.zero_add _)) dL_test_19
set_option maxHeartbeats 4000000 in
set_option maxRecDepth 100000 in
theorem lk_test_1 (l : Launch) (D : va_G) (T : Nat → ClassId) (ea mi : Nat) (sa : Nat → Nat) (o out : Nat) (f : Nat → Int64) (x0 : Int32) {vs : List Value} {wt : va_W} {rm : Room} (hM : ZB l yX5_test wsX5_test rm (zW ea mi sa) D T ((o, .inr (6, vs)) :: wt) [.ref o, .int x0] "java/lang/IndexOutOfBoundsException") (hrm : rm.cells = 1 ∧ rm.slots = 6) : ZIH l yL_test wsL_test (lkR rm 3 1 6) (zX ea mi sa) D T (S := Unit) (ouW out T f :: ((o, .inr (6, vs)) :: wt)) (fun _ => ouW out T f :: ((o, .inr (6, vs)) :: wt)) [.ref o, .int x0, .ref out] 1 1 6 := by
  refine z_inIHW (cc := cL_test) (maxL := 4) (hh := [(0, 9, 12, 13), (0, 9, 15, 21)]) (rt := .int) (by decide +kernel) rfl (Nat.le_of_ble_eq_true rfl) ?_
  intro p e s m args below meth c sl9 A Q Z hX htb hnm Mz9 hl9 hret
  have Z : zC p s m args c cL_test 4 RL wsL_test D T A := Z
  have hx := Z.1.1
  have hb := Z.1.2.1
  have hts := Z.1.2.2.2.2
  have hl9 : lv_has sl9 4 [(0, .ref o), (1, .int (x0)), (2, .ref out)] := hl9
  obtain ⟨is9, hp1, hp2, hp3⟩ := mid_put2 (ouW out T f) ((o, .inr (6, vs)) :: wt)
  refine lv_aload_n hx hb dL_test_0 rfl (lv_at hl9 2 rfl) ?_
  refine lv_iconst (v := 0) hx hb dL_test_1 (by decide) ?_
  refine lv_aload_n hx hb dL_test_2 rfl (lv_at hl9 0 rfl) ?_
  refine lv_iload_n hx hb dL_test_3 rfl (lv_at hl9 1 rfl) ?_
  refine z_callVx (As := [.int (x0)]) (rest := [.int 0, .ref out]) (wc := ((o, .inr (6, vs)) :: wt)) (zW_k ea mi sa) hX.1 Z Mz9 hM (cwV 1 hts gL_test_X5_test rfl hrm.1 hrm.2 (by decide +kernel) ⟨Nat.le_refl _, Nat.le_refl _⟩) is9 hp1 hp2 (va_recv Z.2.1 Mz9.1 (ci := 6) (q0 := 1) rfl rfl) rfl hl9.1 (Nat.le_of_ble_eq_true rfl) dL_test_4 ⟨Nat.le_of_ble_eq_true rfl, Nat.le_of_ble_eq_true rfl⟩ rfl (fun Hp9 lc9 q9 ce Mz9 hcell hv hcl => ?_)
  refine vx_catch (name := "java/lang/IndexOutOfBoundsException") Z.1.2.2.2.1 [] (⟨0, 9, 12, 13⟩ : ExceptionTableEntry) [(⟨0, 9, 15, 21⟩ : ExceptionTableEntry)] htb (fun z hz => absurd hz List.not_mem_nil) (by decide) (by decide) (hts (.classLink RL 13 "java/lang/IndexOutOfBoundsException") (by decide +kernel)) ((zWw hX.1 (w := .castable "java/lang/IndexOutOfBoundsException" "java/lang/IndexOutOfBoundsException") (by decide +kernel)).use rfl) hcell hv hcl ?_
  refine lv_astore_n (lv' := [(3, .ref q9), (0, .ref o), (1, .int (x0)), (2, .ref out)]) hx hb dL_test_12 rfl hl9 (by decide) rfl (fun sl9 hl9 => ?_)
  refine lv_iconst (v := 1) hx hb dL_test_13 (by decide) ?_
  exact hret _ _ _ _ _ sl9 _ _ () Mz9 rfl rfl rfl (Nat.le_of_ble_eq_true rfl) (Nat.le_of_ble_eq_true rfl) dL_test_14
set_option maxHeartbeats 4000000 in
set_option maxRecDepth 100000 in
theorem lk_test_2 (l : Launch) (D : va_G) (T : Nat → ClassId) (ea mi : Nat) (sa : Nat → Nat) (o out : Nat) (f : Nat → Int64) (x0 : Int32) {vs : List Value} {wt : va_W} {rm : Room} (hM : ZB l yX5_test wsX5_test rm (zW ea mi sa) D T ((o, .inr (6, vs)) :: wt) [.ref o, .int x0] "java/lang/IllegalStateException") (hrm : rm.cells = 1 ∧ rm.slots = 6) : ZIH l yL_test wsL_test (lkR rm 3 1 6) (zX ea mi sa) D T (S := Unit) (ouW out T f :: ((o, .inr (6, vs)) :: wt)) (fun _ => ouW out T f :: ((o, .inr (6, vs)) :: wt)) [.ref o, .int x0, .ref out] 2 1 6 := by
  refine z_inIHW (cc := cL_test) (maxL := 4) (hh := [(0, 9, 12, 13), (0, 9, 15, 21)]) (rt := .int) (by decide +kernel) rfl (Nat.le_of_ble_eq_true rfl) ?_
  intro p e s m args below meth c sl9 A Q Z hX htb hnm Mz9 hl9 hret
  have Z : zC p s m args c cL_test 4 RL wsL_test D T A := Z
  have hx := Z.1.1
  have hb := Z.1.2.1
  have hts := Z.1.2.2.2.2
  have hl9 : lv_has sl9 4 [(0, .ref o), (1, .int (x0)), (2, .ref out)] := hl9
  obtain ⟨is9, hp1, hp2, hp3⟩ := mid_put2 (ouW out T f) ((o, .inr (6, vs)) :: wt)
  refine lv_aload_n hx hb dL_test_0 rfl (lv_at hl9 2 rfl) ?_
  refine lv_iconst (v := 0) hx hb dL_test_1 (by decide) ?_
  refine lv_aload_n hx hb dL_test_2 rfl (lv_at hl9 0 rfl) ?_
  refine lv_iload_n hx hb dL_test_3 rfl (lv_at hl9 1 rfl) ?_
  refine z_callVx (As := [.int (x0)]) (rest := [.int 0, .ref out]) (wc := ((o, .inr (6, vs)) :: wt)) (zW_k ea mi sa) hX.1 Z Mz9 hM (cwV 1 hts gL_test_X5_test rfl hrm.1 hrm.2 (by decide +kernel) ⟨Nat.le_refl _, Nat.le_refl _⟩) is9 hp1 hp2 (va_recv Z.2.1 Mz9.1 (ci := 6) (q0 := 1) rfl rfl) rfl hl9.1 (Nat.le_of_ble_eq_true rfl) dL_test_4 ⟨Nat.le_of_ble_eq_true rfl, Nat.le_of_ble_eq_true rfl⟩ rfl (fun Hp9 lc9 q9 ce Mz9 hcell hv hcl => ?_)
  refine vx_catch (name := "java/lang/IllegalStateException") Z.1.2.2.2.1 [(⟨0, 9, 12, 13⟩ : ExceptionTableEntry)] (⟨0, 9, 15, 21⟩ : ExceptionTableEntry) [] htb (List.forall_mem_cons.mpr ⟨Or.inr ⟨by decide, "java/lang/IndexOutOfBoundsException", hts (.classLink RL 13 "java/lang/IndexOutOfBoundsException") (by decide +kernel), hX.2.2.1⟩, fun _ hz => absurd hz List.not_mem_nil⟩) (by decide) (by decide) (hts (.classLink RL 21 "java/lang/IllegalStateException") (by decide +kernel)) ((zWw hX.1 (w := .castable "java/lang/IllegalStateException" "java/lang/IllegalStateException") (by decide +kernel)).use rfl) hcell hv hcl ?_
  refine lv_astore_n (lv' := [(3, .ref q9), (0, .ref o), (1, .int (x0)), (2, .ref out)]) hx hb dL_test_15 rfl hl9 (by decide) rfl (fun sl9 hl9 => ?_)
  refine lv_iconst (v := 2) hx hb dL_test_16 (by decide) ?_
  exact hret _ _ _ _ _ sl9 _ _ () Mz9 rfl rfl rfl (Nat.le_of_ble_eq_true rfl) (Nat.le_of_ble_eq_true rfl) dL_test_17
set_option maxHeartbeats 4000000 in
set_option maxRecDepth 100000 in
theorem lk_paper (l : Launch) (D : va_G) (T : Nat → ClassId) (ea mi : Nat) (sa : Nat → Nat) (o out : Nat) (f : Nat → Int64) (x0 x1 : Int32) {vs : List Value} {wt : va_W} {rm : Room} {S : Type} {w' : S → va_W} {mc ms : Nat} {rv : Int32} (hM : ZIH l yX5_paper wsX5_paper rm (zW ea mi sa) D T (S := S) ((o, .inr (6, vs)) :: wt) w' [.ref o, .int x0, .int x1] rv mc ms) (hrm : rm.cells = mc ∧ rm.slots = ms) (hf : ∀ (u : S) (j : Nat), j < ((o, .inr (6, vs)) :: wt).length → ((w' u).map Prod.fst)[j]? = (((o, .inr (6, vs)) :: wt).map Prod.fst)[j]?) (hlen : ∀ u : S, ((o, .inr (6, vs)) :: wt).length ≤ (w' u).length) : ZIH l yL_paper wsL_paper (lkR rm 5 mc ms) (zX ea mi sa) D T (S := S) (ouW out T f :: ((o, .inr (6, vs)) :: wt)) (fun u => (out, .inl (T 2, 1, .inr (.inl (vp_updL f (0 : Int32).toNatClampNeg rv.toInt64)))) :: w' u) [.ref o, .int x0, .int x1, .ref out] 0 mc ms := by
  refine z_inIHW (cc := cL_paper) (maxL := 5) (hh := [(0, 10, 13, 13), (0, 10, 17, 15)]) (rt := .int) (by decide +kernel) rfl (Nat.le_of_ble_eq_true rfl) ?_
  intro p e s m args below meth c sl9 A Q Z hX htb hnm Mz9 hl9 hret
  have Z : zC p s m args c cL_paper 5 RL wsL_paper D T A := Z
  have hx := Z.1.1
  have hb := Z.1.2.1
  have hts := Z.1.2.2.2.2
  have hl9 : lv_has sl9 5 [(0, .ref o), (1, .int (x0)), (2, .int (x1)), (3, .ref out)] := hl9
  obtain ⟨is9, hp1, hp2, hp3⟩ := mid_put2 (ouW out T f) ((o, .inr (6, vs)) :: wt)
  refine lv_aload_n hx hb dL_paper_0 rfl (lv_at hl9 3 rfl) ?_
  refine lv_iconst (v := 0) hx hb dL_paper_1 (by decide) ?_
  refine lv_aload_n hx hb dL_paper_2 rfl (lv_at hl9 0 rfl) ?_
  refine lv_iload_n hx hb dL_paper_3 rfl (lv_at hl9 1 rfl) ?_
  refine lv_iload_n hx hb dL_paper_4 rfl (lv_at hl9 2 rfl) ?_
  refine z_callViH (As := [.int (x0), .int (x1)]) (rest := [.int 0, .ref out]) (wc := ((o, .inr (6, vs)) :: wt)) (zW_k ea mi sa) hX.1 Z Mz9 hM (cwV 2 hts gL_paper_X5_paper rfl hrm.1 hrm.2 (by decide +kernel) ⟨Nat.le_refl _, Nat.le_refl _⟩) is9 hp1 hp2 hf hlen (va_recv Z.2.1 Mz9.1 (ci := 6) (q0 := 1) rfl rfl) rfl hl9.1 (Nat.le_of_ble_eq_true rfl) dL_paper_5 ⟨Nat.le_of_eq (Nat.zero_add _), Nat.le_of_eq (Nat.zero_add _)⟩ rfl (fun u Hp9 lc9 Mz9 => ?_)
  have Mz9 : zM D A s.heap (ouW out T f :: w' u) _ _ := zM_w (hp3 _ (hlen u)) Mz9
  refine lv_i2l (v := rv.toInt64) hx hb dL_paper_8 rfl ?_
  refine va_last hx hb Z.2.1 Mz9.1 Mz9.2.1 Mz9.2.2 0 2 (cA := T 2) (n := 1) (f := f) rfl rfl (i := 0) (by unfold vp_in; decide) dL_paper_9 (fun Hp9 lc9 hP9 hD9 hS9 => ?_)
  have Mz9 : zM D A s.heap ((out, .inl (T 2, 1, .inr (.inl (vp_updL f (0 : Int32).toNatClampNeg rv.toInt64)))) :: w' u) _ _ := ⟨hP9, hD9, hS9⟩
  refine lv_goto (tgt := 21) hx hb dL_paper_10 (by decide) ?_
  refine lv_iconst (v := 0) hx hb dL_paper_21 (by decide) ?_
  exact hret _ _ _ _ _ sl9 _ _ u Mz9 (rfl) rfl rfl (Nat.le_of_eq (Nat.zero_add _)) (Nat.le_of_eq (Nat.zero_add _)) dL_paper_22
set_option maxHeartbeats 4000000 in
set_option maxRecDepth 100000 in
theorem lk_paper_1 (l : Launch) (D : va_G) (T : Nat → ClassId) (ea mi : Nat) (sa : Nat → Nat) (o out : Nat) (f : Nat → Int64) (x0 x1 : Int32) {vs : List Value} {wt : va_W} {rm : Room} (hM : ZB l yX5_paper wsX5_paper rm (zW ea mi sa) D T ((o, .inr (6, vs)) :: wt) [.ref o, .int x0, .int x1] "java/lang/IndexOutOfBoundsException") (hrm : rm.cells = 1 ∧ rm.slots = 6) : ZIH l yL_paper wsL_paper (lkR rm 5 1 6) (zX ea mi sa) D T (S := Unit) (ouW out T f :: ((o, .inr (6, vs)) :: wt)) (fun _ => ouW out T f :: ((o, .inr (6, vs)) :: wt)) [.ref o, .int x0, .int x1, .ref out] 1 1 6 := by
  refine z_inIHW (cc := cL_paper) (maxL := 5) (hh := [(0, 10, 13, 13), (0, 10, 17, 15)]) (rt := .int) (by decide +kernel) rfl (Nat.le_of_ble_eq_true rfl) ?_
  intro p e s m args below meth c sl9 A Q Z hX htb hnm Mz9 hl9 hret
  have Z : zC p s m args c cL_paper 5 RL wsL_paper D T A := Z
  have hx := Z.1.1
  have hb := Z.1.2.1
  have hts := Z.1.2.2.2.2
  have hl9 : lv_has sl9 5 [(0, .ref o), (1, .int (x0)), (2, .int (x1)), (3, .ref out)] := hl9
  obtain ⟨is9, hp1, hp2, hp3⟩ := mid_put2 (ouW out T f) ((o, .inr (6, vs)) :: wt)
  refine lv_aload_n hx hb dL_paper_0 rfl (lv_at hl9 3 rfl) ?_
  refine lv_iconst (v := 0) hx hb dL_paper_1 (by decide) ?_
  refine lv_aload_n hx hb dL_paper_2 rfl (lv_at hl9 0 rfl) ?_
  refine lv_iload_n hx hb dL_paper_3 rfl (lv_at hl9 1 rfl) ?_
  refine lv_iload_n hx hb dL_paper_4 rfl (lv_at hl9 2 rfl) ?_
  refine z_callVx (As := [.int (x0), .int (x1)]) (rest := [.int 0, .ref out]) (wc := ((o, .inr (6, vs)) :: wt)) (zW_k ea mi sa) hX.1 Z Mz9 hM (cwV 2 hts gL_paper_X5_paper rfl hrm.1 hrm.2 (by decide +kernel) ⟨Nat.le_refl _, Nat.le_refl _⟩) is9 hp1 hp2 (va_recv Z.2.1 Mz9.1 (ci := 6) (q0 := 1) rfl rfl) rfl hl9.1 (Nat.le_of_ble_eq_true rfl) dL_paper_5 ⟨Nat.le_of_ble_eq_true rfl, Nat.le_of_ble_eq_true rfl⟩ rfl (fun Hp9 lc9 q9 ce Mz9 hcell hv hcl => ?_)
  refine vx_catch (name := "java/lang/IndexOutOfBoundsException") Z.1.2.2.2.1 [] (⟨0, 10, 13, 13⟩ : ExceptionTableEntry) [(⟨0, 10, 17, 15⟩ : ExceptionTableEntry)] htb (fun z hz => absurd hz List.not_mem_nil) (by decide) (by decide) (hts (.classLink RL 13 "java/lang/IndexOutOfBoundsException") (by decide +kernel)) ((zWw hX.1 (w := .castable "java/lang/IndexOutOfBoundsException" "java/lang/IndexOutOfBoundsException") (by decide +kernel)).use rfl) hcell hv hcl ?_
  refine lv_astore (lv' := [(4, .ref q9), (0, .ref o), (1, .int (x0)), (2, .int (x1)), (3, .ref out)]) hx hb dL_paper_13 hl9 (by decide) rfl (fun sl9 hl9 => ?_)
  refine lv_iconst (v := 1) hx hb dL_paper_15 (by decide) ?_
  exact hret _ _ _ _ _ sl9 _ _ () Mz9 rfl rfl rfl (Nat.le_of_ble_eq_true rfl) (Nat.le_of_ble_eq_true rfl) dL_paper_16
set_option maxHeartbeats 4000000 in
set_option maxRecDepth 100000 in
theorem lk_paper_2 (l : Launch) (D : va_G) (T : Nat → ClassId) (ea mi : Nat) (sa : Nat → Nat) (o out : Nat) (f : Nat → Int64) (x0 x1 : Int32) {vs : List Value} {wt : va_W} {rm : Room} (hM : ZB l yX5_paper wsX5_paper rm (zW ea mi sa) D T ((o, .inr (6, vs)) :: wt) [.ref o, .int x0, .int x1] "java/lang/IllegalArgumentException") (hrm : rm.cells = 1 ∧ rm.slots = 6) : ZIH l yL_paper wsL_paper (lkR rm 5 1 6) (zX ea mi sa) D T (S := Unit) (ouW out T f :: ((o, .inr (6, vs)) :: wt)) (fun _ => ouW out T f :: ((o, .inr (6, vs)) :: wt)) [.ref o, .int x0, .int x1, .ref out] 2 1 6 := by
  refine z_inIHW (cc := cL_paper) (maxL := 5) (hh := [(0, 10, 13, 13), (0, 10, 17, 15)]) (rt := .int) (by decide +kernel) rfl (Nat.le_of_ble_eq_true rfl) ?_
  intro p e s m args below meth c sl9 A Q Z hX htb hnm Mz9 hl9 hret
  have Z : zC p s m args c cL_paper 5 RL wsL_paper D T A := Z
  have hx := Z.1.1
  have hb := Z.1.2.1
  have hts := Z.1.2.2.2.2
  have hl9 : lv_has sl9 5 [(0, .ref o), (1, .int (x0)), (2, .int (x1)), (3, .ref out)] := hl9
  obtain ⟨is9, hp1, hp2, hp3⟩ := mid_put2 (ouW out T f) ((o, .inr (6, vs)) :: wt)
  refine lv_aload_n hx hb dL_paper_0 rfl (lv_at hl9 3 rfl) ?_
  refine lv_iconst (v := 0) hx hb dL_paper_1 (by decide) ?_
  refine lv_aload_n hx hb dL_paper_2 rfl (lv_at hl9 0 rfl) ?_
  refine lv_iload_n hx hb dL_paper_3 rfl (lv_at hl9 1 rfl) ?_
  refine lv_iload_n hx hb dL_paper_4 rfl (lv_at hl9 2 rfl) ?_
  refine z_callVx (As := [.int (x0), .int (x1)]) (rest := [.int 0, .ref out]) (wc := ((o, .inr (6, vs)) :: wt)) (zW_k ea mi sa) hX.1 Z Mz9 hM (cwV 2 hts gL_paper_X5_paper rfl hrm.1 hrm.2 (by decide +kernel) ⟨Nat.le_refl _, Nat.le_refl _⟩) is9 hp1 hp2 (va_recv Z.2.1 Mz9.1 (ci := 6) (q0 := 1) rfl rfl) rfl hl9.1 (Nat.le_of_ble_eq_true rfl) dL_paper_5 ⟨Nat.le_of_ble_eq_true rfl, Nat.le_of_ble_eq_true rfl⟩ rfl (fun Hp9 lc9 q9 ce Mz9 hcell hv hcl => ?_)
  refine vx_catch (name := "java/lang/IllegalArgumentException") Z.1.2.2.2.1 [(⟨0, 10, 13, 13⟩ : ExceptionTableEntry)] (⟨0, 10, 17, 15⟩ : ExceptionTableEntry) [] htb (List.forall_mem_cons.mpr ⟨Or.inr ⟨by decide, "java/lang/IndexOutOfBoundsException", hts (.classLink RL 13 "java/lang/IndexOutOfBoundsException") (by decide +kernel), hX.2.1⟩, fun _ hz => absurd hz List.not_mem_nil⟩) (by decide) (by decide) (hts (.classLink RL 15 "java/lang/IllegalArgumentException") (by decide +kernel)) ((zWw hX.1 (w := .castable "java/lang/IllegalArgumentException" "java/lang/IllegalArgumentException") (by decide +kernel)).use rfl) hcell hv hcl ?_
  refine lv_astore (lv' := [(4, .ref q9), (0, .ref o), (1, .int (x0)), (2, .int (x1)), (3, .ref out)]) hx hb dL_paper_17 hl9 (by decide) rfl (fun sl9 hl9 => ?_)
  refine lv_iconst (v := 2) hx hb dL_paper_19 (by decide) ?_
  exact hret _ _ _ _ _ sl9 _ _ () Mz9 rfl rfl rfl (Nat.le_of_ble_eq_true rfl) (Nat.le_of_ble_eq_true rfl) dL_paper_20
set_option maxHeartbeats 4000000 in
set_option maxRecDepth 100000 in
theorem lk_layer (l : Launch) (D : va_G) (T : Nat → ClassId) (ea mi : Nat) (sa : Nat → Nat) (o out : Nat) (f : Nat → Int64) (x0 x1 : Int32) {vs : List Value} {wt : va_W} {rm : Room} {S : Type} {w' : S → va_W} {mc ms : Nat} {rv : Int32} (hM : ZIH l yX5_layer wsX5_layer rm (zW ea mi sa) D T (S := S) ((o, .inr (6, vs)) :: wt) w' [.ref o, .int x0, .int x1] rv mc ms) (hrm : rm.cells = mc ∧ rm.slots = ms) (hf : ∀ (u : S) (j : Nat), j < ((o, .inr (6, vs)) :: wt).length → ((w' u).map Prod.fst)[j]? = (((o, .inr (6, vs)) :: wt).map Prod.fst)[j]?) (hlen : ∀ u : S, ((o, .inr (6, vs)) :: wt).length ≤ (w' u).length) : ZIH l yL_layer wsL_layer (lkR rm 4 mc ms) (zX ea mi sa) D T (S := S) (ouW out T f :: ((o, .inr (6, vs)) :: wt)) (fun u => (out, .inl (T 2, 1, .inr (.inl (vp_updL f (0 : Int32).toNatClampNeg rv.toInt64)))) :: w' u) [.ref o, .int x0, .int x1, .ref out] 0 mc ms := by
  refine z_inIHW (cc := cL_layer) (maxL := 5) (hh := [(0, 10, 13, 13), (0, 10, 17, 15), (0, 10, 21, 21)]) (rt := .int) (by decide +kernel) rfl (Nat.le_of_ble_eq_true rfl) ?_
  intro p e s m args below meth c sl9 A Q Z hX htb hnm Mz9 hl9 hret
  have Z : zC p s m args c cL_layer 5 RL wsL_layer D T A := Z
  have hx := Z.1.1
  have hb := Z.1.2.1
  have hts := Z.1.2.2.2.2
  have hl9 : lv_has sl9 5 [(0, .ref o), (1, .int (x0)), (2, .int (x1)), (3, .ref out)] := hl9
  obtain ⟨is9, hp1, hp2, hp3⟩ := mid_put2 (ouW out T f) ((o, .inr (6, vs)) :: wt)
  refine lv_aload_n hx hb dL_layer_0 rfl (lv_at hl9 3 rfl) ?_
  refine lv_iconst (v := 0) hx hb dL_layer_1 (by decide) ?_
  refine lv_aload_n hx hb dL_layer_2 rfl (lv_at hl9 0 rfl) ?_
  refine lv_iload_n hx hb dL_layer_3 rfl (lv_at hl9 1 rfl) ?_
  refine lv_iload_n hx hb dL_layer_4 rfl (lv_at hl9 2 rfl) ?_
  refine z_callViH (As := [.int (x0), .int (x1)]) (rest := [.int 0, .ref out]) (wc := ((o, .inr (6, vs)) :: wt)) (zW_k ea mi sa) hX.1 Z Mz9 hM (cwV 2 hts gL_layer_X5_layer rfl hrm.1 hrm.2 (by decide +kernel) ⟨Nat.le_refl _, Nat.le_refl _⟩) is9 hp1 hp2 hf hlen (va_recv Z.2.1 Mz9.1 (ci := 6) (q0 := 1) rfl rfl) rfl hl9.1 (Nat.le_of_ble_eq_true rfl) dL_layer_5 ⟨Nat.le_of_eq (Nat.zero_add _), Nat.le_of_eq (Nat.zero_add _)⟩ rfl (fun u Hp9 lc9 Mz9 => ?_)
  have Mz9 : zM D A s.heap (ouW out T f :: w' u) _ _ := zM_w (hp3 _ (hlen u)) Mz9
  refine lv_i2l (v := rv.toInt64) hx hb dL_layer_8 rfl ?_
  refine va_last hx hb Z.2.1 Mz9.1 Mz9.2.1 Mz9.2.2 0 2 (cA := T 2) (n := 1) (f := f) rfl rfl (i := 0) (by unfold vp_in; decide) dL_layer_9 (fun Hp9 lc9 hP9 hD9 hS9 => ?_)
  have Mz9 : zM D A s.heap ((out, .inl (T 2, 1, .inr (.inl (vp_updL f (0 : Int32).toNatClampNeg rv.toInt64)))) :: w' u) _ _ := ⟨hP9, hD9, hS9⟩
  refine lv_goto (tgt := 25) hx hb dL_layer_10 (by decide) ?_
  refine lv_iconst (v := 0) hx hb dL_layer_25 (by decide) ?_
  exact hret _ _ _ _ _ sl9 _ _ u Mz9 (rfl) rfl rfl (Nat.le_of_eq (Nat.zero_add _)) (Nat.le_of_eq (Nat.zero_add _)) dL_layer_26
set_option maxHeartbeats 4000000 in
set_option maxRecDepth 100000 in
theorem lk_layer_1 (l : Launch) (D : va_G) (T : Nat → ClassId) (ea mi : Nat) (sa : Nat → Nat) (o out : Nat) (f : Nat → Int64) (x0 x1 : Int32) {vs : List Value} {wt : va_W} {rm : Room} (hM : ZB l yX5_layer wsX5_layer rm (zW ea mi sa) D T ((o, .inr (6, vs)) :: wt) [.ref o, .int x0, .int x1] "java/lang/IndexOutOfBoundsException") (hrm : rm.cells = 1 ∧ rm.slots = 6) : ZIH l yL_layer wsL_layer (lkR rm 4 1 6) (zX ea mi sa) D T (S := Unit) (ouW out T f :: ((o, .inr (6, vs)) :: wt)) (fun _ => ouW out T f :: ((o, .inr (6, vs)) :: wt)) [.ref o, .int x0, .int x1, .ref out] 1 1 6 := by
  refine z_inIHW (cc := cL_layer) (maxL := 5) (hh := [(0, 10, 13, 13), (0, 10, 17, 15), (0, 10, 21, 21)]) (rt := .int) (by decide +kernel) rfl (Nat.le_of_ble_eq_true rfl) ?_
  intro p e s m args below meth c sl9 A Q Z hX htb hnm Mz9 hl9 hret
  have Z : zC p s m args c cL_layer 5 RL wsL_layer D T A := Z
  have hx := Z.1.1
  have hb := Z.1.2.1
  have hts := Z.1.2.2.2.2
  have hl9 : lv_has sl9 5 [(0, .ref o), (1, .int (x0)), (2, .int (x1)), (3, .ref out)] := hl9
  obtain ⟨is9, hp1, hp2, hp3⟩ := mid_put2 (ouW out T f) ((o, .inr (6, vs)) :: wt)
  refine lv_aload_n hx hb dL_layer_0 rfl (lv_at hl9 3 rfl) ?_
  refine lv_iconst (v := 0) hx hb dL_layer_1 (by decide) ?_
  refine lv_aload_n hx hb dL_layer_2 rfl (lv_at hl9 0 rfl) ?_
  refine lv_iload_n hx hb dL_layer_3 rfl (lv_at hl9 1 rfl) ?_
  refine lv_iload_n hx hb dL_layer_4 rfl (lv_at hl9 2 rfl) ?_
  refine z_callVx (As := [.int (x0), .int (x1)]) (rest := [.int 0, .ref out]) (wc := ((o, .inr (6, vs)) :: wt)) (zW_k ea mi sa) hX.1 Z Mz9 hM (cwV 2 hts gL_layer_X5_layer rfl hrm.1 hrm.2 (by decide +kernel) ⟨Nat.le_refl _, Nat.le_refl _⟩) is9 hp1 hp2 (va_recv Z.2.1 Mz9.1 (ci := 6) (q0 := 1) rfl rfl) rfl hl9.1 (Nat.le_of_ble_eq_true rfl) dL_layer_5 ⟨Nat.le_of_ble_eq_true rfl, Nat.le_of_ble_eq_true rfl⟩ rfl (fun Hp9 lc9 q9 ce Mz9 hcell hv hcl => ?_)
  refine vx_catch (name := "java/lang/IndexOutOfBoundsException") Z.1.2.2.2.1 [] (⟨0, 10, 13, 13⟩ : ExceptionTableEntry) [(⟨0, 10, 17, 15⟩ : ExceptionTableEntry), (⟨0, 10, 21, 21⟩ : ExceptionTableEntry)] htb (fun z hz => absurd hz List.not_mem_nil) (by decide) (by decide) (hts (.classLink RL 13 "java/lang/IndexOutOfBoundsException") (by decide +kernel)) ((zWw hX.1 (w := .castable "java/lang/IndexOutOfBoundsException" "java/lang/IndexOutOfBoundsException") (by decide +kernel)).use rfl) hcell hv hcl ?_
  refine lv_astore (lv' := [(4, .ref q9), (0, .ref o), (1, .int (x0)), (2, .int (x1)), (3, .ref out)]) hx hb dL_layer_13 hl9 (by decide) rfl (fun sl9 hl9 => ?_)
  refine lv_iconst (v := 1) hx hb dL_layer_15 (by decide) ?_
  exact hret _ _ _ _ _ sl9 _ _ () Mz9 rfl rfl rfl (Nat.le_of_ble_eq_true rfl) (Nat.le_of_ble_eq_true rfl) dL_layer_16
set_option maxHeartbeats 4000000 in
set_option maxRecDepth 100000 in
theorem lk_layer_2 (l : Launch) (D : va_G) (T : Nat → ClassId) (ea mi : Nat) (sa : Nat → Nat) (o out : Nat) (f : Nat → Int64) (x0 x1 : Int32) {vs : List Value} {wt : va_W} {rm : Room} (hM : ZB l yX5_layer wsX5_layer rm (zW ea mi sa) D T ((o, .inr (6, vs)) :: wt) [.ref o, .int x0, .int x1] "java/lang/IllegalArgumentException") (hrm : rm.cells = 1 ∧ rm.slots = 6) : ZIH l yL_layer wsL_layer (lkR rm 4 1 6) (zX ea mi sa) D T (S := Unit) (ouW out T f :: ((o, .inr (6, vs)) :: wt)) (fun _ => ouW out T f :: ((o, .inr (6, vs)) :: wt)) [.ref o, .int x0, .int x1, .ref out] 2 1 6 := by
  refine z_inIHW (cc := cL_layer) (maxL := 5) (hh := [(0, 10, 13, 13), (0, 10, 17, 15), (0, 10, 21, 21)]) (rt := .int) (by decide +kernel) rfl (Nat.le_of_ble_eq_true rfl) ?_
  intro p e s m args below meth c sl9 A Q Z hX htb hnm Mz9 hl9 hret
  have Z : zC p s m args c cL_layer 5 RL wsL_layer D T A := Z
  have hx := Z.1.1
  have hb := Z.1.2.1
  have hts := Z.1.2.2.2.2
  have hl9 : lv_has sl9 5 [(0, .ref o), (1, .int (x0)), (2, .int (x1)), (3, .ref out)] := hl9
  obtain ⟨is9, hp1, hp2, hp3⟩ := mid_put2 (ouW out T f) ((o, .inr (6, vs)) :: wt)
  refine lv_aload_n hx hb dL_layer_0 rfl (lv_at hl9 3 rfl) ?_
  refine lv_iconst (v := 0) hx hb dL_layer_1 (by decide) ?_
  refine lv_aload_n hx hb dL_layer_2 rfl (lv_at hl9 0 rfl) ?_
  refine lv_iload_n hx hb dL_layer_3 rfl (lv_at hl9 1 rfl) ?_
  refine lv_iload_n hx hb dL_layer_4 rfl (lv_at hl9 2 rfl) ?_
  refine z_callVx (As := [.int (x0), .int (x1)]) (rest := [.int 0, .ref out]) (wc := ((o, .inr (6, vs)) :: wt)) (zW_k ea mi sa) hX.1 Z Mz9 hM (cwV 2 hts gL_layer_X5_layer rfl hrm.1 hrm.2 (by decide +kernel) ⟨Nat.le_refl _, Nat.le_refl _⟩) is9 hp1 hp2 (va_recv Z.2.1 Mz9.1 (ci := 6) (q0 := 1) rfl rfl) rfl hl9.1 (Nat.le_of_ble_eq_true rfl) dL_layer_5 ⟨Nat.le_of_ble_eq_true rfl, Nat.le_of_ble_eq_true rfl⟩ rfl (fun Hp9 lc9 q9 ce Mz9 hcell hv hcl => ?_)
  refine vx_catch (name := "java/lang/IllegalArgumentException") Z.1.2.2.2.1 [(⟨0, 10, 13, 13⟩ : ExceptionTableEntry)] (⟨0, 10, 17, 15⟩ : ExceptionTableEntry) [(⟨0, 10, 21, 21⟩ : ExceptionTableEntry)] htb (List.forall_mem_cons.mpr ⟨Or.inr ⟨by decide, "java/lang/IndexOutOfBoundsException", hts (.classLink RL 13 "java/lang/IndexOutOfBoundsException") (by decide +kernel), hX.2.1⟩, fun _ hz => absurd hz List.not_mem_nil⟩) (by decide) (by decide) (hts (.classLink RL 15 "java/lang/IllegalArgumentException") (by decide +kernel)) ((zWw hX.1 (w := .castable "java/lang/IllegalArgumentException" "java/lang/IllegalArgumentException") (by decide +kernel)).use rfl) hcell hv hcl ?_
  refine lv_astore (lv' := [(4, .ref q9), (0, .ref o), (1, .int (x0)), (2, .int (x1)), (3, .ref out)]) hx hb dL_layer_17 hl9 (by decide) rfl (fun sl9 hl9 => ?_)
  refine lv_iconst (v := 2) hx hb dL_layer_19 (by decide) ?_
  exact hret _ _ _ _ _ sl9 _ _ () Mz9 rfl rfl rfl (Nat.le_of_ble_eq_true rfl) (Nat.le_of_ble_eq_true rfl) dL_layer_20
set_option maxHeartbeats 4000000 in
set_option maxRecDepth 100000 in
theorem lk_layer_3 (l : Launch) (D : va_G) (T : Nat → ClassId) (ea mi : Nat) (sa : Nat → Nat) (o out : Nat) (f : Nat → Int64) (x0 x1 : Int32) {vs : List Value} {wt : va_W} {rm : Room} (hM : ZB l yX5_layer wsX5_layer rm (zW ea mi sa) D T ((o, .inr (6, vs)) :: wt) [.ref o, .int x0, .int x1] "java/lang/IllegalStateException") (hrm : rm.cells = 1 ∧ rm.slots = 6) : ZIH l yL_layer wsL_layer (lkR rm 4 1 6) (zX ea mi sa) D T (S := Unit) (ouW out T f :: ((o, .inr (6, vs)) :: wt)) (fun _ => ouW out T f :: ((o, .inr (6, vs)) :: wt)) [.ref o, .int x0, .int x1, .ref out] 3 1 6 := by
  refine z_inIHW (cc := cL_layer) (maxL := 5) (hh := [(0, 10, 13, 13), (0, 10, 17, 15), (0, 10, 21, 21)]) (rt := .int) (by decide +kernel) rfl (Nat.le_of_ble_eq_true rfl) ?_
  intro p e s m args below meth c sl9 A Q Z hX htb hnm Mz9 hl9 hret
  have Z : zC p s m args c cL_layer 5 RL wsL_layer D T A := Z
  have hx := Z.1.1
  have hb := Z.1.2.1
  have hts := Z.1.2.2.2.2
  have hl9 : lv_has sl9 5 [(0, .ref o), (1, .int (x0)), (2, .int (x1)), (3, .ref out)] := hl9
  obtain ⟨is9, hp1, hp2, hp3⟩ := mid_put2 (ouW out T f) ((o, .inr (6, vs)) :: wt)
  refine lv_aload_n hx hb dL_layer_0 rfl (lv_at hl9 3 rfl) ?_
  refine lv_iconst (v := 0) hx hb dL_layer_1 (by decide) ?_
  refine lv_aload_n hx hb dL_layer_2 rfl (lv_at hl9 0 rfl) ?_
  refine lv_iload_n hx hb dL_layer_3 rfl (lv_at hl9 1 rfl) ?_
  refine lv_iload_n hx hb dL_layer_4 rfl (lv_at hl9 2 rfl) ?_
  refine z_callVx (As := [.int (x0), .int (x1)]) (rest := [.int 0, .ref out]) (wc := ((o, .inr (6, vs)) :: wt)) (zW_k ea mi sa) hX.1 Z Mz9 hM (cwV 2 hts gL_layer_X5_layer rfl hrm.1 hrm.2 (by decide +kernel) ⟨Nat.le_refl _, Nat.le_refl _⟩) is9 hp1 hp2 (va_recv Z.2.1 Mz9.1 (ci := 6) (q0 := 1) rfl rfl) rfl hl9.1 (Nat.le_of_ble_eq_true rfl) dL_layer_5 ⟨Nat.le_of_ble_eq_true rfl, Nat.le_of_ble_eq_true rfl⟩ rfl (fun Hp9 lc9 q9 ce Mz9 hcell hv hcl => ?_)
  refine vx_catch (name := "java/lang/IllegalStateException") Z.1.2.2.2.1 [(⟨0, 10, 13, 13⟩ : ExceptionTableEntry), (⟨0, 10, 17, 15⟩ : ExceptionTableEntry)] (⟨0, 10, 21, 21⟩ : ExceptionTableEntry) [] htb (List.forall_mem_cons.mpr ⟨Or.inr ⟨by decide, "java/lang/IndexOutOfBoundsException", hts (.classLink RL 13 "java/lang/IndexOutOfBoundsException") (by decide +kernel), hX.2.2.1⟩, List.forall_mem_cons.mpr ⟨Or.inr ⟨by decide, "java/lang/IllegalArgumentException", hts (.classLink RL 15 "java/lang/IllegalArgumentException") (by decide +kernel), hX.2.2.2⟩, fun _ hz => absurd hz List.not_mem_nil⟩⟩) (by decide) (by decide) (hts (.classLink RL 21 "java/lang/IllegalStateException") (by decide +kernel)) ((zWw hX.1 (w := .castable "java/lang/IllegalStateException" "java/lang/IllegalStateException") (by decide +kernel)).use rfl) hcell hv hcl ?_
  refine lv_astore (lv' := [(4, .ref q9), (0, .ref o), (1, .int (x0)), (2, .int (x1)), (3, .ref out)]) hx hb dL_layer_21 hl9 (by decide) rfl (fun sl9 hl9 => ?_)
  refine lv_iconst (v := 3) hx hb dL_layer_23 (by decide) ?_
  exact hret _ _ _ _ _ sl9 _ _ () Mz9 rfl rfl rfl (Nat.le_of_ble_eq_true rfl) (Nat.le_of_ble_eq_true rfl) dL_layer_24
set_option maxHeartbeats 4000000 in
set_option maxRecDepth 100000 in
theorem lk_fewest (l : Launch) (D : va_G) (T : Nat → ClassId) (ea mi : Nat) (sa : Nat → Nat) (o out : Nat) (f : Nat → Int64) (x0 x1 : Int32) {vs : List Value} {wt : va_W} {rm : Room} {S : Type} {w' : S → va_W} {mc ms : Nat} {rv : Int32} (hM : ZIH l yX5_fewest wsX5_fewest rm (zW ea mi sa) D T (S := S) ((o, .inr (6, vs)) :: wt) w' [.ref o, .int x0, .int x1] rv mc ms) (hrm : rm.cells = mc ∧ rm.slots = ms) (hf : ∀ (u : S) (j : Nat), j < ((o, .inr (6, vs)) :: wt).length → ((w' u).map Prod.fst)[j]? = (((o, .inr (6, vs)) :: wt).map Prod.fst)[j]?) (hlen : ∀ u : S, ((o, .inr (6, vs)) :: wt).length ≤ (w' u).length) : ZIH l yL_fewest wsL_fewest (lkR rm 4 mc ms) (zX ea mi sa) D T (S := S) (ouW out T f :: ((o, .inr (6, vs)) :: wt)) (fun u => (out, .inl (T 2, 1, .inr (.inl (vp_updL f (0 : Int32).toNatClampNeg rv.toInt64)))) :: w' u) [.ref o, .int x0, .int x1, .ref out] 0 mc ms := by
  refine z_inIHW (cc := cL_fewest) (maxL := 5) (hh := [(0, 10, 13, 13), (0, 10, 17, 15)]) (rt := .int) (by decide +kernel) rfl (Nat.le_of_ble_eq_true rfl) ?_
  intro p e s m args below meth c sl9 A Q Z hX htb hnm Mz9 hl9 hret
  have Z : zC p s m args c cL_fewest 5 RL wsL_fewest D T A := Z
  have hx := Z.1.1
  have hb := Z.1.2.1
  have hts := Z.1.2.2.2.2
  have hl9 : lv_has sl9 5 [(0, .ref o), (1, .int (x0)), (2, .int (x1)), (3, .ref out)] := hl9
  obtain ⟨is9, hp1, hp2, hp3⟩ := mid_put2 (ouW out T f) ((o, .inr (6, vs)) :: wt)
  refine lv_aload_n hx hb dL_fewest_0 rfl (lv_at hl9 3 rfl) ?_
  refine lv_iconst (v := 0) hx hb dL_fewest_1 (by decide) ?_
  refine lv_aload_n hx hb dL_fewest_2 rfl (lv_at hl9 0 rfl) ?_
  refine lv_iload_n hx hb dL_fewest_3 rfl (lv_at hl9 1 rfl) ?_
  refine lv_iload_n hx hb dL_fewest_4 rfl (lv_at hl9 2 rfl) ?_
  refine z_callViH (As := [.int (x0), .int (x1)]) (rest := [.int 0, .ref out]) (wc := ((o, .inr (6, vs)) :: wt)) (zW_k ea mi sa) hX.1 Z Mz9 hM (cwV 2 hts gL_fewest_X5_fewest rfl hrm.1 hrm.2 (by decide +kernel) ⟨Nat.le_refl _, Nat.le_refl _⟩) is9 hp1 hp2 hf hlen (va_recv Z.2.1 Mz9.1 (ci := 6) (q0 := 1) rfl rfl) rfl hl9.1 (Nat.le_of_ble_eq_true rfl) dL_fewest_5 ⟨Nat.le_of_eq (Nat.zero_add _), Nat.le_of_eq (Nat.zero_add _)⟩ rfl (fun u Hp9 lc9 Mz9 => ?_)
  have Mz9 : zM D A s.heap (ouW out T f :: w' u) _ _ := zM_w (hp3 _ (hlen u)) Mz9
  refine lv_i2l (v := rv.toInt64) hx hb dL_fewest_8 rfl ?_
  refine va_last hx hb Z.2.1 Mz9.1 Mz9.2.1 Mz9.2.2 0 2 (cA := T 2) (n := 1) (f := f) rfl rfl (i := 0) (by unfold vp_in; decide) dL_fewest_9 (fun Hp9 lc9 hP9 hD9 hS9 => ?_)
  have Mz9 : zM D A s.heap ((out, .inl (T 2, 1, .inr (.inl (vp_updL f (0 : Int32).toNatClampNeg rv.toInt64)))) :: w' u) _ _ := ⟨hP9, hD9, hS9⟩
  refine lv_goto (tgt := 21) hx hb dL_fewest_10 (by decide) ?_
  refine lv_iconst (v := 0) hx hb dL_fewest_21 (by decide) ?_
  exact hret _ _ _ _ _ sl9 _ _ u Mz9 (rfl) rfl rfl (Nat.le_of_eq (Nat.zero_add _)) (Nat.le_of_eq (Nat.zero_add _)) dL_fewest_22
set_option maxHeartbeats 4000000 in
set_option maxRecDepth 100000 in
theorem lk_fewest_1 (l : Launch) (D : va_G) (T : Nat → ClassId) (ea mi : Nat) (sa : Nat → Nat) (o out : Nat) (f : Nat → Int64) (x0 x1 : Int32) {vs : List Value} {wt : va_W} {rm : Room} (hM : ZB l yX5_fewest wsX5_fewest rm (zW ea mi sa) D T ((o, .inr (6, vs)) :: wt) [.ref o, .int x0, .int x1] "java/lang/IndexOutOfBoundsException") (hrm : rm.cells = 1 ∧ rm.slots = 6) : ZIH l yL_fewest wsL_fewest (lkR rm 4 1 6) (zX ea mi sa) D T (S := Unit) (ouW out T f :: ((o, .inr (6, vs)) :: wt)) (fun _ => ouW out T f :: ((o, .inr (6, vs)) :: wt)) [.ref o, .int x0, .int x1, .ref out] 1 1 6 := by
  refine z_inIHW (cc := cL_fewest) (maxL := 5) (hh := [(0, 10, 13, 13), (0, 10, 17, 15)]) (rt := .int) (by decide +kernel) rfl (Nat.le_of_ble_eq_true rfl) ?_
  intro p e s m args below meth c sl9 A Q Z hX htb hnm Mz9 hl9 hret
  have Z : zC p s m args c cL_fewest 5 RL wsL_fewest D T A := Z
  have hx := Z.1.1
  have hb := Z.1.2.1
  have hts := Z.1.2.2.2.2
  have hl9 : lv_has sl9 5 [(0, .ref o), (1, .int (x0)), (2, .int (x1)), (3, .ref out)] := hl9
  obtain ⟨is9, hp1, hp2, hp3⟩ := mid_put2 (ouW out T f) ((o, .inr (6, vs)) :: wt)
  refine lv_aload_n hx hb dL_fewest_0 rfl (lv_at hl9 3 rfl) ?_
  refine lv_iconst (v := 0) hx hb dL_fewest_1 (by decide) ?_
  refine lv_aload_n hx hb dL_fewest_2 rfl (lv_at hl9 0 rfl) ?_
  refine lv_iload_n hx hb dL_fewest_3 rfl (lv_at hl9 1 rfl) ?_
  refine lv_iload_n hx hb dL_fewest_4 rfl (lv_at hl9 2 rfl) ?_
  refine z_callVx (As := [.int (x0), .int (x1)]) (rest := [.int 0, .ref out]) (wc := ((o, .inr (6, vs)) :: wt)) (zW_k ea mi sa) hX.1 Z Mz9 hM (cwV 2 hts gL_fewest_X5_fewest rfl hrm.1 hrm.2 (by decide +kernel) ⟨Nat.le_refl _, Nat.le_refl _⟩) is9 hp1 hp2 (va_recv Z.2.1 Mz9.1 (ci := 6) (q0 := 1) rfl rfl) rfl hl9.1 (Nat.le_of_ble_eq_true rfl) dL_fewest_5 ⟨Nat.le_of_ble_eq_true rfl, Nat.le_of_ble_eq_true rfl⟩ rfl (fun Hp9 lc9 q9 ce Mz9 hcell hv hcl => ?_)
  refine vx_catch (name := "java/lang/IndexOutOfBoundsException") Z.1.2.2.2.1 [] (⟨0, 10, 13, 13⟩ : ExceptionTableEntry) [(⟨0, 10, 17, 15⟩ : ExceptionTableEntry)] htb (fun z hz => absurd hz List.not_mem_nil) (by decide) (by decide) (hts (.classLink RL 13 "java/lang/IndexOutOfBoundsException") (by decide +kernel)) ((zWw hX.1 (w := .castable "java/lang/IndexOutOfBoundsException" "java/lang/IndexOutOfBoundsException") (by decide +kernel)).use rfl) hcell hv hcl ?_
  refine lv_astore (lv' := [(4, .ref q9), (0, .ref o), (1, .int (x0)), (2, .int (x1)), (3, .ref out)]) hx hb dL_fewest_13 hl9 (by decide) rfl (fun sl9 hl9 => ?_)
  refine lv_iconst (v := 1) hx hb dL_fewest_15 (by decide) ?_
  exact hret _ _ _ _ _ sl9 _ _ () Mz9 rfl rfl rfl (Nat.le_of_ble_eq_true rfl) (Nat.le_of_ble_eq_true rfl) dL_fewest_16
set_option maxHeartbeats 4000000 in
set_option maxRecDepth 100000 in
theorem lk_fewest_2 (l : Launch) (D : va_G) (T : Nat → ClassId) (ea mi : Nat) (sa : Nat → Nat) (o out : Nat) (f : Nat → Int64) (x0 x1 : Int32) {vs : List Value} {wt : va_W} {rm : Room} (hM : ZB l yX5_fewest wsX5_fewest rm (zW ea mi sa) D T ((o, .inr (6, vs)) :: wt) [.ref o, .int x0, .int x1] "java/lang/IllegalArgumentException") (hrm : rm.cells = 1 ∧ rm.slots = 6) : ZIH l yL_fewest wsL_fewest (lkR rm 4 1 6) (zX ea mi sa) D T (S := Unit) (ouW out T f :: ((o, .inr (6, vs)) :: wt)) (fun _ => ouW out T f :: ((o, .inr (6, vs)) :: wt)) [.ref o, .int x0, .int x1, .ref out] 2 1 6 := by
  refine z_inIHW (cc := cL_fewest) (maxL := 5) (hh := [(0, 10, 13, 13), (0, 10, 17, 15)]) (rt := .int) (by decide +kernel) rfl (Nat.le_of_ble_eq_true rfl) ?_
  intro p e s m args below meth c sl9 A Q Z hX htb hnm Mz9 hl9 hret
  have Z : zC p s m args c cL_fewest 5 RL wsL_fewest D T A := Z
  have hx := Z.1.1
  have hb := Z.1.2.1
  have hts := Z.1.2.2.2.2
  have hl9 : lv_has sl9 5 [(0, .ref o), (1, .int (x0)), (2, .int (x1)), (3, .ref out)] := hl9
  obtain ⟨is9, hp1, hp2, hp3⟩ := mid_put2 (ouW out T f) ((o, .inr (6, vs)) :: wt)
  refine lv_aload_n hx hb dL_fewest_0 rfl (lv_at hl9 3 rfl) ?_
  refine lv_iconst (v := 0) hx hb dL_fewest_1 (by decide) ?_
  refine lv_aload_n hx hb dL_fewest_2 rfl (lv_at hl9 0 rfl) ?_
  refine lv_iload_n hx hb dL_fewest_3 rfl (lv_at hl9 1 rfl) ?_
  refine lv_iload_n hx hb dL_fewest_4 rfl (lv_at hl9 2 rfl) ?_
  refine z_callVx (As := [.int (x0), .int (x1)]) (rest := [.int 0, .ref out]) (wc := ((o, .inr (6, vs)) :: wt)) (zW_k ea mi sa) hX.1 Z Mz9 hM (cwV 2 hts gL_fewest_X5_fewest rfl hrm.1 hrm.2 (by decide +kernel) ⟨Nat.le_refl _, Nat.le_refl _⟩) is9 hp1 hp2 (va_recv Z.2.1 Mz9.1 (ci := 6) (q0 := 1) rfl rfl) rfl hl9.1 (Nat.le_of_ble_eq_true rfl) dL_fewest_5 ⟨Nat.le_of_ble_eq_true rfl, Nat.le_of_ble_eq_true rfl⟩ rfl (fun Hp9 lc9 q9 ce Mz9 hcell hv hcl => ?_)
  refine vx_catch (name := "java/lang/IllegalArgumentException") Z.1.2.2.2.1 [(⟨0, 10, 13, 13⟩ : ExceptionTableEntry)] (⟨0, 10, 17, 15⟩ : ExceptionTableEntry) [] htb (List.forall_mem_cons.mpr ⟨Or.inr ⟨by decide, "java/lang/IndexOutOfBoundsException", hts (.classLink RL 13 "java/lang/IndexOutOfBoundsException") (by decide +kernel), hX.2.1⟩, fun _ hz => absurd hz List.not_mem_nil⟩) (by decide) (by decide) (hts (.classLink RL 15 "java/lang/IllegalArgumentException") (by decide +kernel)) ((zWw hX.1 (w := .castable "java/lang/IllegalArgumentException" "java/lang/IllegalArgumentException") (by decide +kernel)).use rfl) hcell hv hcl ?_
  refine lv_astore (lv' := [(4, .ref q9), (0, .ref o), (1, .int (x0)), (2, .int (x1)), (3, .ref out)]) hx hb dL_fewest_17 hl9 (by decide) rfl (fun sl9 hl9 => ?_)
  refine lv_iconst (v := 2) hx hb dL_fewest_19 (by decide) ?_
  exact hret _ _ _ _ _ sl9 _ _ () Mz9 rfl rfl rfl (Nat.le_of_ble_eq_true rfl) (Nat.le_of_ble_eq_true rfl) dL_fewest_20
set_option maxHeartbeats 4000000 in
set_option maxRecDepth 100000 in
theorem lk_first (l : Launch) (D : va_G) (T : Nat → ClassId) (ea mi : Nat) (sa : Nat → Nat) (o out : Nat) (f : Nat → Int64) (x0 x1 : Int32) {vs : List Value} {wt : va_W} {rm : Room} {S : Type} {w' : S → va_W} {mc ms : Nat} {rv : Int32} (hM : ZIH l yX5_first wsX5_first rm (zW ea mi sa) D T (S := S) ((o, .inr (6, vs)) :: wt) w' [.ref o, .int x0, .int x1] rv mc ms) (hrm : rm.cells = mc ∧ rm.slots = ms) (hf : ∀ (u : S) (j : Nat), j < ((o, .inr (6, vs)) :: wt).length → ((w' u).map Prod.fst)[j]? = (((o, .inr (6, vs)) :: wt).map Prod.fst)[j]?) (hlen : ∀ u : S, ((o, .inr (6, vs)) :: wt).length ≤ (w' u).length) : ZIH l yL_first wsL_first (lkR rm 4 mc ms) (zX ea mi sa) D T (S := S) (ouW out T f :: ((o, .inr (6, vs)) :: wt)) (fun u => (out, .inl (T 2, 1, .inr (.inl (vp_updL f (0 : Int32).toNatClampNeg rv.toInt64)))) :: w' u) [.ref o, .int x0, .int x1, .ref out] 0 mc ms := by
  refine z_inIHW (cc := cL_first) (maxL := 5) (hh := [(0, 10, 13, 13), (0, 10, 17, 15)]) (rt := .int) (by decide +kernel) rfl (Nat.le_of_ble_eq_true rfl) ?_
  intro p e s m args below meth c sl9 A Q Z hX htb hnm Mz9 hl9 hret
  have Z : zC p s m args c cL_first 5 RL wsL_first D T A := Z
  have hx := Z.1.1
  have hb := Z.1.2.1
  have hts := Z.1.2.2.2.2
  have hl9 : lv_has sl9 5 [(0, .ref o), (1, .int (x0)), (2, .int (x1)), (3, .ref out)] := hl9
  obtain ⟨is9, hp1, hp2, hp3⟩ := mid_put2 (ouW out T f) ((o, .inr (6, vs)) :: wt)
  refine lv_aload_n hx hb dL_first_0 rfl (lv_at hl9 3 rfl) ?_
  refine lv_iconst (v := 0) hx hb dL_first_1 (by decide) ?_
  refine lv_aload_n hx hb dL_first_2 rfl (lv_at hl9 0 rfl) ?_
  refine lv_iload_n hx hb dL_first_3 rfl (lv_at hl9 1 rfl) ?_
  refine lv_iload_n hx hb dL_first_4 rfl (lv_at hl9 2 rfl) ?_
  refine z_callViH (As := [.int (x0), .int (x1)]) (rest := [.int 0, .ref out]) (wc := ((o, .inr (6, vs)) :: wt)) (zW_k ea mi sa) hX.1 Z Mz9 hM (cwV 2 hts gL_first_X5_first rfl hrm.1 hrm.2 (by decide +kernel) ⟨Nat.le_refl _, Nat.le_refl _⟩) is9 hp1 hp2 hf hlen (va_recv Z.2.1 Mz9.1 (ci := 6) (q0 := 1) rfl rfl) rfl hl9.1 (Nat.le_of_ble_eq_true rfl) dL_first_5 ⟨Nat.le_of_eq (Nat.zero_add _), Nat.le_of_eq (Nat.zero_add _)⟩ rfl (fun u Hp9 lc9 Mz9 => ?_)
  have Mz9 : zM D A s.heap (ouW out T f :: w' u) _ _ := zM_w (hp3 _ (hlen u)) Mz9
  refine lv_i2l (v := rv.toInt64) hx hb dL_first_8 rfl ?_
  refine va_last hx hb Z.2.1 Mz9.1 Mz9.2.1 Mz9.2.2 0 2 (cA := T 2) (n := 1) (f := f) rfl rfl (i := 0) (by unfold vp_in; decide) dL_first_9 (fun Hp9 lc9 hP9 hD9 hS9 => ?_)
  have Mz9 : zM D A s.heap ((out, .inl (T 2, 1, .inr (.inl (vp_updL f (0 : Int32).toNatClampNeg rv.toInt64)))) :: w' u) _ _ := ⟨hP9, hD9, hS9⟩
  refine lv_goto (tgt := 21) hx hb dL_first_10 (by decide) ?_
  refine lv_iconst (v := 0) hx hb dL_first_21 (by decide) ?_
  exact hret _ _ _ _ _ sl9 _ _ u Mz9 (rfl) rfl rfl (Nat.le_of_eq (Nat.zero_add _)) (Nat.le_of_eq (Nat.zero_add _)) dL_first_22
set_option maxHeartbeats 4000000 in
set_option maxRecDepth 100000 in
theorem lk_first_1 (l : Launch) (D : va_G) (T : Nat → ClassId) (ea mi : Nat) (sa : Nat → Nat) (o out : Nat) (f : Nat → Int64) (x0 x1 : Int32) {vs : List Value} {wt : va_W} {rm : Room} (hM : ZB l yX5_first wsX5_first rm (zW ea mi sa) D T ((o, .inr (6, vs)) :: wt) [.ref o, .int x0, .int x1] "java/lang/IndexOutOfBoundsException") (hrm : rm.cells = 1 ∧ rm.slots = 6) : ZIH l yL_first wsL_first (lkR rm 4 1 6) (zX ea mi sa) D T (S := Unit) (ouW out T f :: ((o, .inr (6, vs)) :: wt)) (fun _ => ouW out T f :: ((o, .inr (6, vs)) :: wt)) [.ref o, .int x0, .int x1, .ref out] 1 1 6 := by
  refine z_inIHW (cc := cL_first) (maxL := 5) (hh := [(0, 10, 13, 13), (0, 10, 17, 15)]) (rt := .int) (by decide +kernel) rfl (Nat.le_of_ble_eq_true rfl) ?_
  intro p e s m args below meth c sl9 A Q Z hX htb hnm Mz9 hl9 hret
  have Z : zC p s m args c cL_first 5 RL wsL_first D T A := Z
  have hx := Z.1.1
  have hb := Z.1.2.1
  have hts := Z.1.2.2.2.2
  have hl9 : lv_has sl9 5 [(0, .ref o), (1, .int (x0)), (2, .int (x1)), (3, .ref out)] := hl9
  obtain ⟨is9, hp1, hp2, hp3⟩ := mid_put2 (ouW out T f) ((o, .inr (6, vs)) :: wt)
  refine lv_aload_n hx hb dL_first_0 rfl (lv_at hl9 3 rfl) ?_
  refine lv_iconst (v := 0) hx hb dL_first_1 (by decide) ?_
  refine lv_aload_n hx hb dL_first_2 rfl (lv_at hl9 0 rfl) ?_
  refine lv_iload_n hx hb dL_first_3 rfl (lv_at hl9 1 rfl) ?_
  refine lv_iload_n hx hb dL_first_4 rfl (lv_at hl9 2 rfl) ?_
  refine z_callVx (As := [.int (x0), .int (x1)]) (rest := [.int 0, .ref out]) (wc := ((o, .inr (6, vs)) :: wt)) (zW_k ea mi sa) hX.1 Z Mz9 hM (cwV 2 hts gL_first_X5_first rfl hrm.1 hrm.2 (by decide +kernel) ⟨Nat.le_refl _, Nat.le_refl _⟩) is9 hp1 hp2 (va_recv Z.2.1 Mz9.1 (ci := 6) (q0 := 1) rfl rfl) rfl hl9.1 (Nat.le_of_ble_eq_true rfl) dL_first_5 ⟨Nat.le_of_ble_eq_true rfl, Nat.le_of_ble_eq_true rfl⟩ rfl (fun Hp9 lc9 q9 ce Mz9 hcell hv hcl => ?_)
  refine vx_catch (name := "java/lang/IndexOutOfBoundsException") Z.1.2.2.2.1 [] (⟨0, 10, 13, 13⟩ : ExceptionTableEntry) [(⟨0, 10, 17, 15⟩ : ExceptionTableEntry)] htb (fun z hz => absurd hz List.not_mem_nil) (by decide) (by decide) (hts (.classLink RL 13 "java/lang/IndexOutOfBoundsException") (by decide +kernel)) ((zWw hX.1 (w := .castable "java/lang/IndexOutOfBoundsException" "java/lang/IndexOutOfBoundsException") (by decide +kernel)).use rfl) hcell hv hcl ?_
  refine lv_astore (lv' := [(4, .ref q9), (0, .ref o), (1, .int (x0)), (2, .int (x1)), (3, .ref out)]) hx hb dL_first_13 hl9 (by decide) rfl (fun sl9 hl9 => ?_)
  refine lv_iconst (v := 1) hx hb dL_first_15 (by decide) ?_
  exact hret _ _ _ _ _ sl9 _ _ () Mz9 rfl rfl rfl (Nat.le_of_ble_eq_true rfl) (Nat.le_of_ble_eq_true rfl) dL_first_16
set_option maxHeartbeats 4000000 in
set_option maxRecDepth 100000 in
theorem lk_first_2 (l : Launch) (D : va_G) (T : Nat → ClassId) (ea mi : Nat) (sa : Nat → Nat) (o out : Nat) (f : Nat → Int64) (x0 x1 : Int32) {vs : List Value} {wt : va_W} {rm : Room} (hM : ZB l yX5_first wsX5_first rm (zW ea mi sa) D T ((o, .inr (6, vs)) :: wt) [.ref o, .int x0, .int x1] "java/lang/IllegalArgumentException") (hrm : rm.cells = 1 ∧ rm.slots = 6) : ZIH l yL_first wsL_first (lkR rm 4 1 6) (zX ea mi sa) D T (S := Unit) (ouW out T f :: ((o, .inr (6, vs)) :: wt)) (fun _ => ouW out T f :: ((o, .inr (6, vs)) :: wt)) [.ref o, .int x0, .int x1, .ref out] 2 1 6 := by
  refine z_inIHW (cc := cL_first) (maxL := 5) (hh := [(0, 10, 13, 13), (0, 10, 17, 15)]) (rt := .int) (by decide +kernel) rfl (Nat.le_of_ble_eq_true rfl) ?_
  intro p e s m args below meth c sl9 A Q Z hX htb hnm Mz9 hl9 hret
  have Z : zC p s m args c cL_first 5 RL wsL_first D T A := Z
  have hx := Z.1.1
  have hb := Z.1.2.1
  have hts := Z.1.2.2.2.2
  have hl9 : lv_has sl9 5 [(0, .ref o), (1, .int (x0)), (2, .int (x1)), (3, .ref out)] := hl9
  obtain ⟨is9, hp1, hp2, hp3⟩ := mid_put2 (ouW out T f) ((o, .inr (6, vs)) :: wt)
  refine lv_aload_n hx hb dL_first_0 rfl (lv_at hl9 3 rfl) ?_
  refine lv_iconst (v := 0) hx hb dL_first_1 (by decide) ?_
  refine lv_aload_n hx hb dL_first_2 rfl (lv_at hl9 0 rfl) ?_
  refine lv_iload_n hx hb dL_first_3 rfl (lv_at hl9 1 rfl) ?_
  refine lv_iload_n hx hb dL_first_4 rfl (lv_at hl9 2 rfl) ?_
  refine z_callVx (As := [.int (x0), .int (x1)]) (rest := [.int 0, .ref out]) (wc := ((o, .inr (6, vs)) :: wt)) (zW_k ea mi sa) hX.1 Z Mz9 hM (cwV 2 hts gL_first_X5_first rfl hrm.1 hrm.2 (by decide +kernel) ⟨Nat.le_refl _, Nat.le_refl _⟩) is9 hp1 hp2 (va_recv Z.2.1 Mz9.1 (ci := 6) (q0 := 1) rfl rfl) rfl hl9.1 (Nat.le_of_ble_eq_true rfl) dL_first_5 ⟨Nat.le_of_ble_eq_true rfl, Nat.le_of_ble_eq_true rfl⟩ rfl (fun Hp9 lc9 q9 ce Mz9 hcell hv hcl => ?_)
  refine vx_catch (name := "java/lang/IllegalArgumentException") Z.1.2.2.2.1 [(⟨0, 10, 13, 13⟩ : ExceptionTableEntry)] (⟨0, 10, 17, 15⟩ : ExceptionTableEntry) [] htb (List.forall_mem_cons.mpr ⟨Or.inr ⟨by decide, "java/lang/IndexOutOfBoundsException", hts (.classLink RL 13 "java/lang/IndexOutOfBoundsException") (by decide +kernel), hX.2.1⟩, fun _ hz => absurd hz List.not_mem_nil⟩) (by decide) (by decide) (hts (.classLink RL 15 "java/lang/IllegalArgumentException") (by decide +kernel)) ((zWw hX.1 (w := .castable "java/lang/IllegalArgumentException" "java/lang/IllegalArgumentException") (by decide +kernel)).use rfl) hcell hv hcl ?_
  refine lv_astore (lv' := [(4, .ref q9), (0, .ref o), (1, .int (x0)), (2, .int (x1)), (3, .ref out)]) hx hb dL_first_17 hl9 (by decide) rfl (fun sl9 hl9 => ?_)
  refine lv_iconst (v := 2) hx hb dL_first_19 (by decide) ?_
  exact hret _ _ _ _ _ sl9 _ _ () Mz9 rfl rfl rfl (Nat.le_of_ble_eq_true rfl) (Nat.le_of_ble_eq_true rfl) dL_first_20
set_option maxHeartbeats 4000000 in
set_option maxRecDepth 100000 in
theorem lk_job (l : Launch) (D : va_G) (T : Nat → ClassId) (ea mi : Nat) (sa : Nat → Nat) (o out : Nat) (f : Nat → Int64) (x0 : Int32) {vs : List Value} {wt : va_W} {rm : Room} {S : Type} {w' : S → va_W} {mc ms : Nat} {rv : Int32} (hM : ZIH l yX5_job wsX5_job rm (zW ea mi sa) D T (S := S) ((o, .inr (6, vs)) :: wt) w' [.ref o, .int x0] rv mc ms) (hrm : rm.cells = mc ∧ rm.slots = ms) (hf : ∀ (u : S) (j : Nat), j < ((o, .inr (6, vs)) :: wt).length → ((w' u).map Prod.fst)[j]? = (((o, .inr (6, vs)) :: wt).map Prod.fst)[j]?) (hlen : ∀ u : S, ((o, .inr (6, vs)) :: wt).length ≤ (w' u).length) : ZIH l yL_job wsL_job (lkR rm 2 mc ms) (zX ea mi sa) D T (S := S) (ouW out T f :: ((o, .inr (6, vs)) :: wt)) (fun u => (out, .inl (T 2, 1, .inr (.inl (vp_updL f (0 : Int32).toNatClampNeg rv.toInt64)))) :: w' u) [.ref o, .int x0, .ref out] 0 mc ms := by
  refine z_inIHW (cc := cL_job) (maxL := 4) (hh := [(0, 9, 12, 15), (0, 9, 15, 21)]) (rt := .int) (by decide +kernel) rfl (Nat.le_of_ble_eq_true rfl) ?_
  intro p e s m args below meth c sl9 A Q Z hX htb hnm Mz9 hl9 hret
  have Z : zC p s m args c cL_job 4 RL wsL_job D T A := Z
  have hx := Z.1.1
  have hb := Z.1.2.1
  have hts := Z.1.2.2.2.2
  have hl9 : lv_has sl9 4 [(0, .ref o), (1, .int (x0)), (2, .ref out)] := hl9
  obtain ⟨is9, hp1, hp2, hp3⟩ := mid_put2 (ouW out T f) ((o, .inr (6, vs)) :: wt)
  refine lv_aload_n hx hb dL_job_0 rfl (lv_at hl9 2 rfl) ?_
  refine lv_iconst (v := 0) hx hb dL_job_1 (by decide) ?_
  refine lv_aload_n hx hb dL_job_2 rfl (lv_at hl9 0 rfl) ?_
  refine lv_iload_n hx hb dL_job_3 rfl (lv_at hl9 1 rfl) ?_
  refine z_callViH (As := [.int (x0)]) (rest := [.int 0, .ref out]) (wc := ((o, .inr (6, vs)) :: wt)) (zW_k ea mi sa) hX.1 Z Mz9 hM (cwV 1 hts gL_job_X5_job rfl hrm.1 hrm.2 (by decide +kernel) ⟨Nat.le_refl _, Nat.le_refl _⟩) is9 hp1 hp2 hf hlen (va_recv Z.2.1 Mz9.1 (ci := 6) (q0 := 1) rfl rfl) rfl hl9.1 (Nat.le_of_ble_eq_true rfl) dL_job_4 ⟨Nat.le_of_eq (Nat.zero_add _), Nat.le_of_eq (Nat.zero_add _)⟩ rfl (fun u Hp9 lc9 Mz9 => ?_)
  have Mz9 : zM D A s.heap (ouW out T f :: w' u) _ _ := zM_w (hp3 _ (hlen u)) Mz9
  refine lv_i2l (v := rv.toInt64) hx hb dL_job_7 rfl ?_
  refine va_last hx hb Z.2.1 Mz9.1 Mz9.2.1 Mz9.2.2 0 2 (cA := T 2) (n := 1) (f := f) rfl rfl (i := 0) (by unfold vp_in; decide) dL_job_8 (fun Hp9 lc9 hP9 hD9 hS9 => ?_)
  have Mz9 : zM D A s.heap ((out, .inl (T 2, 1, .inr (.inl (vp_updL f (0 : Int32).toNatClampNeg rv.toInt64)))) :: w' u) _ _ := ⟨hP9, hD9, hS9⟩
  refine lv_goto (tgt := 18) hx hb dL_job_9 (by decide) ?_
  refine lv_iconst (v := 0) hx hb dL_job_18 (by decide) ?_
  exact hret _ _ _ _ _ sl9 _ _ u Mz9 (rfl) rfl rfl (Nat.le_of_eq (Nat.zero_add _)) (Nat.le_of_eq (Nat.zero_add _)) dL_job_19
set_option maxHeartbeats 4000000 in
set_option maxRecDepth 100000 in
theorem lk_job_1 (l : Launch) (D : va_G) (T : Nat → ClassId) (ea mi : Nat) (sa : Nat → Nat) (o out : Nat) (f : Nat → Int64) (x0 : Int32) {vs : List Value} {wt : va_W} {rm : Room} (hM : ZB l yX5_job wsX5_job rm (zW ea mi sa) D T ((o, .inr (6, vs)) :: wt) [.ref o, .int x0] "java/lang/IllegalArgumentException") (hrm : rm.cells = 1 ∧ rm.slots = 6) : ZIH l yL_job wsL_job (lkR rm 2 1 6) (zX ea mi sa) D T (S := Unit) (ouW out T f :: ((o, .inr (6, vs)) :: wt)) (fun _ => ouW out T f :: ((o, .inr (6, vs)) :: wt)) [.ref o, .int x0, .ref out] 1 1 6 := by
  refine z_inIHW (cc := cL_job) (maxL := 4) (hh := [(0, 9, 12, 15), (0, 9, 15, 21)]) (rt := .int) (by decide +kernel) rfl (Nat.le_of_ble_eq_true rfl) ?_
  intro p e s m args below meth c sl9 A Q Z hX htb hnm Mz9 hl9 hret
  have Z : zC p s m args c cL_job 4 RL wsL_job D T A := Z
  have hx := Z.1.1
  have hb := Z.1.2.1
  have hts := Z.1.2.2.2.2
  have hl9 : lv_has sl9 4 [(0, .ref o), (1, .int (x0)), (2, .ref out)] := hl9
  obtain ⟨is9, hp1, hp2, hp3⟩ := mid_put2 (ouW out T f) ((o, .inr (6, vs)) :: wt)
  refine lv_aload_n hx hb dL_job_0 rfl (lv_at hl9 2 rfl) ?_
  refine lv_iconst (v := 0) hx hb dL_job_1 (by decide) ?_
  refine lv_aload_n hx hb dL_job_2 rfl (lv_at hl9 0 rfl) ?_
  refine lv_iload_n hx hb dL_job_3 rfl (lv_at hl9 1 rfl) ?_
  refine z_callVx (As := [.int (x0)]) (rest := [.int 0, .ref out]) (wc := ((o, .inr (6, vs)) :: wt)) (zW_k ea mi sa) hX.1 Z Mz9 hM (cwV 1 hts gL_job_X5_job rfl hrm.1 hrm.2 (by decide +kernel) ⟨Nat.le_refl _, Nat.le_refl _⟩) is9 hp1 hp2 (va_recv Z.2.1 Mz9.1 (ci := 6) (q0 := 1) rfl rfl) rfl hl9.1 (Nat.le_of_ble_eq_true rfl) dL_job_4 ⟨Nat.le_of_ble_eq_true rfl, Nat.le_of_ble_eq_true rfl⟩ rfl (fun Hp9 lc9 q9 ce Mz9 hcell hv hcl => ?_)
  refine vx_catch (name := "java/lang/IllegalArgumentException") Z.1.2.2.2.1 [] (⟨0, 9, 12, 15⟩ : ExceptionTableEntry) [(⟨0, 9, 15, 21⟩ : ExceptionTableEntry)] htb (fun z hz => absurd hz List.not_mem_nil) (by decide) (by decide) (hts (.classLink RL 15 "java/lang/IllegalArgumentException") (by decide +kernel)) ((zWw hX.1 (w := .castable "java/lang/IllegalArgumentException" "java/lang/IllegalArgumentException") (by decide +kernel)).use rfl) hcell hv hcl ?_
  refine lv_astore_n (lv' := [(3, .ref q9), (0, .ref o), (1, .int (x0)), (2, .ref out)]) hx hb dL_job_12 rfl hl9 (by decide) rfl (fun sl9 hl9 => ?_)
  refine lv_iconst (v := 1) hx hb dL_job_13 (by decide) ?_
  exact hret _ _ _ _ _ sl9 _ _ () Mz9 rfl rfl rfl (Nat.le_of_ble_eq_true rfl) (Nat.le_of_ble_eq_true rfl) dL_job_14
set_option maxHeartbeats 4000000 in
set_option maxRecDepth 100000 in
theorem lk_job_2 (l : Launch) (D : va_G) (T : Nat → ClassId) (ea mi : Nat) (sa : Nat → Nat) (o out : Nat) (f : Nat → Int64) (x0 : Int32) {vs : List Value} {wt : va_W} {rm : Room} (hM : ZB l yX5_job wsX5_job rm (zW ea mi sa) D T ((o, .inr (6, vs)) :: wt) [.ref o, .int x0] "java/lang/IllegalStateException") (hrm : rm.cells = 1 ∧ rm.slots = 6) : ZIH l yL_job wsL_job (lkR rm 2 1 6) (zX ea mi sa) D T (S := Unit) (ouW out T f :: ((o, .inr (6, vs)) :: wt)) (fun _ => ouW out T f :: ((o, .inr (6, vs)) :: wt)) [.ref o, .int x0, .ref out] 2 1 6 := by
  refine z_inIHW (cc := cL_job) (maxL := 4) (hh := [(0, 9, 12, 15), (0, 9, 15, 21)]) (rt := .int) (by decide +kernel) rfl (Nat.le_of_ble_eq_true rfl) ?_
  intro p e s m args below meth c sl9 A Q Z hX htb hnm Mz9 hl9 hret
  have Z : zC p s m args c cL_job 4 RL wsL_job D T A := Z
  have hx := Z.1.1
  have hb := Z.1.2.1
  have hts := Z.1.2.2.2.2
  have hl9 : lv_has sl9 4 [(0, .ref o), (1, .int (x0)), (2, .ref out)] := hl9
  obtain ⟨is9, hp1, hp2, hp3⟩ := mid_put2 (ouW out T f) ((o, .inr (6, vs)) :: wt)
  refine lv_aload_n hx hb dL_job_0 rfl (lv_at hl9 2 rfl) ?_
  refine lv_iconst (v := 0) hx hb dL_job_1 (by decide) ?_
  refine lv_aload_n hx hb dL_job_2 rfl (lv_at hl9 0 rfl) ?_
  refine lv_iload_n hx hb dL_job_3 rfl (lv_at hl9 1 rfl) ?_
  refine z_callVx (As := [.int (x0)]) (rest := [.int 0, .ref out]) (wc := ((o, .inr (6, vs)) :: wt)) (zW_k ea mi sa) hX.1 Z Mz9 hM (cwV 1 hts gL_job_X5_job rfl hrm.1 hrm.2 (by decide +kernel) ⟨Nat.le_refl _, Nat.le_refl _⟩) is9 hp1 hp2 (va_recv Z.2.1 Mz9.1 (ci := 6) (q0 := 1) rfl rfl) rfl hl9.1 (Nat.le_of_ble_eq_true rfl) dL_job_4 ⟨Nat.le_of_ble_eq_true rfl, Nat.le_of_ble_eq_true rfl⟩ rfl (fun Hp9 lc9 q9 ce Mz9 hcell hv hcl => ?_)
  refine vx_catch (name := "java/lang/IllegalStateException") Z.1.2.2.2.1 [(⟨0, 9, 12, 15⟩ : ExceptionTableEntry)] (⟨0, 9, 15, 21⟩ : ExceptionTableEntry) [] htb (List.forall_mem_cons.mpr ⟨Or.inr ⟨by decide, "java/lang/IllegalArgumentException", hts (.classLink RL 15 "java/lang/IllegalArgumentException") (by decide +kernel), hX.2.2.2⟩, fun _ hz => absurd hz List.not_mem_nil⟩) (by decide) (by decide) (hts (.classLink RL 21 "java/lang/IllegalStateException") (by decide +kernel)) ((zWw hX.1 (w := .castable "java/lang/IllegalStateException" "java/lang/IllegalStateException") (by decide +kernel)).use rfl) hcell hv hcl ?_
  refine lv_astore_n (lv' := [(3, .ref q9), (0, .ref o), (1, .int (x0)), (2, .ref out)]) hx hb dL_job_15 rfl hl9 (by decide) rfl (fun sl9 hl9 => ?_)
  refine lv_iconst (v := 2) hx hb dL_job_16 (by decide) ?_
  exact hret _ _ _ _ _ sl9 _ _ () Mz9 rfl rfl rfl (Nat.le_of_ble_eq_true rfl) (Nat.le_of_ble_eq_true rfl) dL_job_17
set_option maxHeartbeats 4000000 in
set_option maxRecDepth 100000 in
theorem lk_planned (l : Launch) (D : va_G) (T : Nat → ClassId) (ea mi : Nat) (sa : Nat → Nat) (o out : Nat) (f : Nat → Int64) (x0 : Int32) {vs : List Value} {wt : va_W} {rm : Room} {S : Type} {w' : S → va_W} {mc ms : Nat} {rv : Int32} (hM : ZIH l yX5_planned wsX5_planned rm (zW ea mi sa) D T (S := S) ((o, .inr (6, vs)) :: wt) w' [.ref o, .int x0] rv mc ms) (hrm : rm.cells = mc ∧ rm.slots = ms) (hf : ∀ (u : S) (j : Nat), j < ((o, .inr (6, vs)) :: wt).length → ((w' u).map Prod.fst)[j]? = (((o, .inr (6, vs)) :: wt).map Prod.fst)[j]?) (hlen : ∀ u : S, ((o, .inr (6, vs)) :: wt).length ≤ (w' u).length) : ZIH l yL_planned wsL_planned (lkR rm 2 mc ms) (zX ea mi sa) D T (S := S) (ouW out T f :: ((o, .inr (6, vs)) :: wt)) (fun u => (out, .inl (T 2, 1, .inr (.inl (vp_updL f (0 : Int32).toNatClampNeg rv.toInt64)))) :: w' u) [.ref o, .int x0, .ref out] 0 mc ms := by
  refine z_inIHW (cc := cL_planned) (maxL := 4) (hh := [(0, 9, 12, 15)]) (rt := .int) (by decide +kernel) rfl (Nat.le_of_ble_eq_true rfl) ?_
  intro p e s m args below meth c sl9 A Q Z hX htb hnm Mz9 hl9 hret
  have Z : zC p s m args c cL_planned 4 RL wsL_planned D T A := Z
  have hx := Z.1.1
  have hb := Z.1.2.1
  have hts := Z.1.2.2.2.2
  have hl9 : lv_has sl9 4 [(0, .ref o), (1, .int (x0)), (2, .ref out)] := hl9
  obtain ⟨is9, hp1, hp2, hp3⟩ := mid_put2 (ouW out T f) ((o, .inr (6, vs)) :: wt)
  refine lv_aload_n hx hb dL_planned_0 rfl (lv_at hl9 2 rfl) ?_
  refine lv_iconst (v := 0) hx hb dL_planned_1 (by decide) ?_
  refine lv_aload_n hx hb dL_planned_2 rfl (lv_at hl9 0 rfl) ?_
  refine lv_iload_n hx hb dL_planned_3 rfl (lv_at hl9 1 rfl) ?_
  refine z_callViH (As := [.int (x0)]) (rest := [.int 0, .ref out]) (wc := ((o, .inr (6, vs)) :: wt)) (zW_k ea mi sa) hX.1 Z Mz9 hM (cwV 1 hts gL_planned_X5_planned rfl hrm.1 hrm.2 (by decide +kernel) ⟨Nat.le_refl _, Nat.le_refl _⟩) is9 hp1 hp2 hf hlen (va_recv Z.2.1 Mz9.1 (ci := 6) (q0 := 1) rfl rfl) rfl hl9.1 (Nat.le_of_ble_eq_true rfl) dL_planned_4 ⟨Nat.le_of_eq (Nat.zero_add _), Nat.le_of_eq (Nat.zero_add _)⟩ rfl (fun u Hp9 lc9 Mz9 => ?_)
  have Mz9 : zM D A s.heap (ouW out T f :: w' u) _ _ := zM_w (hp3 _ (hlen u)) Mz9
  refine lv_i2l (v := rv.toInt64) hx hb dL_planned_7 rfl ?_
  refine va_last hx hb Z.2.1 Mz9.1 Mz9.2.1 Mz9.2.2 0 2 (cA := T 2) (n := 1) (f := f) rfl rfl (i := 0) (by unfold vp_in; decide) dL_planned_8 (fun Hp9 lc9 hP9 hD9 hS9 => ?_)
  have Mz9 : zM D A s.heap ((out, .inl (T 2, 1, .inr (.inl (vp_updL f (0 : Int32).toNatClampNeg rv.toInt64)))) :: w' u) _ _ := ⟨hP9, hD9, hS9⟩
  refine lv_goto (tgt := 15) hx hb dL_planned_9 (by decide) ?_
  refine lv_iconst (v := 0) hx hb dL_planned_15 (by decide) ?_
  exact hret _ _ _ _ _ sl9 _ _ u Mz9 (rfl) rfl rfl (Nat.le_of_eq (Nat.zero_add _)) (Nat.le_of_eq (Nat.zero_add _)) dL_planned_16
set_option maxHeartbeats 4000000 in
set_option maxRecDepth 100000 in
theorem lk_planned_1 (l : Launch) (D : va_G) (T : Nat → ClassId) (ea mi : Nat) (sa : Nat → Nat) (o out : Nat) (f : Nat → Int64) (x0 : Int32) {vs : List Value} {wt : va_W} {rm : Room} (hM : ZB l yX5_planned wsX5_planned rm (zW ea mi sa) D T ((o, .inr (6, vs)) :: wt) [.ref o, .int x0] "java/lang/IllegalArgumentException") (hrm : rm.cells = 1 ∧ rm.slots = 6) : ZIH l yL_planned wsL_planned (lkR rm 2 1 6) (zX ea mi sa) D T (S := Unit) (ouW out T f :: ((o, .inr (6, vs)) :: wt)) (fun _ => ouW out T f :: ((o, .inr (6, vs)) :: wt)) [.ref o, .int x0, .ref out] 1 1 6 := by
  refine z_inIHW (cc := cL_planned) (maxL := 4) (hh := [(0, 9, 12, 15)]) (rt := .int) (by decide +kernel) rfl (Nat.le_of_ble_eq_true rfl) ?_
  intro p e s m args below meth c sl9 A Q Z hX htb hnm Mz9 hl9 hret
  have Z : zC p s m args c cL_planned 4 RL wsL_planned D T A := Z
  have hx := Z.1.1
  have hb := Z.1.2.1
  have hts := Z.1.2.2.2.2
  have hl9 : lv_has sl9 4 [(0, .ref o), (1, .int (x0)), (2, .ref out)] := hl9
  obtain ⟨is9, hp1, hp2, hp3⟩ := mid_put2 (ouW out T f) ((o, .inr (6, vs)) :: wt)
  refine lv_aload_n hx hb dL_planned_0 rfl (lv_at hl9 2 rfl) ?_
  refine lv_iconst (v := 0) hx hb dL_planned_1 (by decide) ?_
  refine lv_aload_n hx hb dL_planned_2 rfl (lv_at hl9 0 rfl) ?_
  refine lv_iload_n hx hb dL_planned_3 rfl (lv_at hl9 1 rfl) ?_
  refine z_callVx (As := [.int (x0)]) (rest := [.int 0, .ref out]) (wc := ((o, .inr (6, vs)) :: wt)) (zW_k ea mi sa) hX.1 Z Mz9 hM (cwV 1 hts gL_planned_X5_planned rfl hrm.1 hrm.2 (by decide +kernel) ⟨Nat.le_refl _, Nat.le_refl _⟩) is9 hp1 hp2 (va_recv Z.2.1 Mz9.1 (ci := 6) (q0 := 1) rfl rfl) rfl hl9.1 (Nat.le_of_ble_eq_true rfl) dL_planned_4 ⟨Nat.le_of_ble_eq_true rfl, Nat.le_of_ble_eq_true rfl⟩ rfl (fun Hp9 lc9 q9 ce Mz9 hcell hv hcl => ?_)
  refine vx_catch (name := "java/lang/IllegalArgumentException") Z.1.2.2.2.1 [] (⟨0, 9, 12, 15⟩ : ExceptionTableEntry) [] htb (fun z hz => absurd hz List.not_mem_nil) (by decide) (by decide) (hts (.classLink RL 15 "java/lang/IllegalArgumentException") (by decide +kernel)) ((zWw hX.1 (w := .castable "java/lang/IllegalArgumentException" "java/lang/IllegalArgumentException") (by decide +kernel)).use rfl) hcell hv hcl ?_
  refine lv_astore_n (lv' := [(3, .ref q9), (0, .ref o), (1, .int (x0)), (2, .ref out)]) hx hb dL_planned_12 rfl hl9 (by decide) rfl (fun sl9 hl9 => ?_)
  refine lv_iconst (v := 1) hx hb dL_planned_13 (by decide) ?_
  exact hret _ _ _ _ _ sl9 _ _ () Mz9 rfl rfl rfl (Nat.le_of_ble_eq_true rfl) (Nat.le_of_ble_eq_true rfl) dL_planned_14
