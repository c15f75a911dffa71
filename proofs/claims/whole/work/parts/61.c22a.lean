/-! ===== laid by program ===== -/
/-! ===== the law's helpers ===== -/
set_option maxHeartbeats 4000000 in
set_option maxRecDepth 100000 in
theorem lk_steel (l : Launch) (D : va_G) (T : Nat → ClassId) (ea mi : Nat) (sa : Nat → Nat) (o out : Nat) (f : Nat → Int64) (x0 x1 x2 x3 : Int32) {vs : List Value} {wt : va_W} {rm : Room} {S : Type} {w' : S → va_W} {mc ms : Nat} (hM : ZGH l yX5_steel wsX5_steel rm (zW ea mi sa) D T (S := S) ((o, .inr (6, vs)) :: wt) w' [.ref o, .int x0, .int x1, .int x2, .int x3] mc ms) (hrm : rm.cells = mc ∧ rm.slots = ms) (hf : ∀ (u : S) (j : Nat), j < ((o, .inr (6, vs)) :: wt).length → ((w' u).map Prod.fst)[j]? = (((o, .inr (6, vs)) :: wt).map Prod.fst)[j]?) (hlen : ∀ u : S, ((o, .inr (6, vs)) :: wt).length ≤ (w' u).length) : ZIH l yL_steel wsL_steel (lkR rm 6 mc ms) (zX ea mi sa) D T (S := S) (ouW out T f :: ((o, .inr (6, vs)) :: wt)) (fun u => ouW out T f :: w' u) [.ref o, .int x0, .int x1, .int x2, .int x3] 0 mc ms := by
  refine z_inIHW (cc := cL_steel) (maxL := 6) (hh := [(0, 9, 12, 13), (0, 9, 16, 15)]) (rt := .int) (by decide +kernel) rfl (Nat.le_of_ble_eq_true rfl) ?_
  intro p e s m args below meth c sl9 A Q Z hX htb hnm Mz9 hl9 hret
  have Z : zC p s m args c cL_steel 6 RL wsL_steel D T A := Z
  have hx := Z.1.1
  have hb := Z.1.2.1
  have hts := Z.1.2.2.2.2
  have hl9 : lv_has sl9 6 [(0, .ref o), (1, .int (x0)), (2, .int (x1)), (3, .int (x2)), (4, .int (x3))] := hl9
  obtain ⟨is9, hp1, hp2, hp3⟩ := mid_put2 (ouW out T f) ((o, .inr (6, vs)) :: wt)
  refine lv_aload_n hx hb dL_steel_0 rfl (lv_at hl9 0 rfl) ?_
  refine lv_iload_n hx hb dL_steel_1 rfl (lv_at hl9 1 rfl) ?_
  refine lv_iload_n hx hb dL_steel_2 rfl (lv_at hl9 2 rfl) ?_
  refine lv_iload_n hx hb dL_steel_3 rfl (lv_at hl9 3 rfl) ?_
  refine lv_iload hx hb dL_steel_4 (lv_at hl9 4 rfl) ?_
  refine z_callVvH (As := [.int (x0), .int (x1), .int (x2), .int (x3)]) (rest := []) (wc := ((o, .inr (6, vs)) :: wt)) (zW_k ea mi sa) hX.1 Z Mz9 hM (cwV 4 hts gL_steel_X5_steel rfl hrm.1 hrm.2 (by decide +kernel) ⟨Nat.le_refl _, Nat.le_refl _⟩) is9 hp1 hp2 hf hlen (va_recv Z.2.1 Mz9.1 (ci := 6) (q0 := 1) rfl rfl) rfl hl9.1 (Nat.le_of_ble_eq_true rfl) dL_steel_6 ⟨Nat.le_of_eq (Nat.zero_add _), Nat.le_of_eq (Nat.zero_add _)⟩ rfl (fun u Hp9 lc9 Mz9 => ?_)
  have Mz9 : zM D A s.heap (ouW out T f :: w' u) _ _ := zM_w (hp3 _ (hlen u)) Mz9
  refine lv_goto (tgt := 20) hx hb dL_steel_9 (by decide) ?_
  refine lv_iconst (v := 0) hx hb dL_steel_20 (by decide) ?_
  exact hret _ _ _ _ _ sl9 _ _ u Mz9 (rfl) rfl rfl (Nat.le_of_eq (Nat.zero_add _)) (Nat.le_of_eq (Nat.zero_add _)) dL_steel_21
set_option maxHeartbeats 4000000 in
set_option maxRecDepth 100000 in
theorem lk_steel_1 (l : Launch) (D : va_G) (T : Nat → ClassId) (ea mi : Nat) (sa : Nat → Nat) (o out : Nat) (f : Nat → Int64) (x0 x1 x2 x3 : Int32) {vs : List Value} {wt : va_W} {rm : Room} (hM : ZB l yX5_steel wsX5_steel rm (zW ea mi sa) D T ((o, .inr (6, vs)) :: wt) [.ref o, .int x0, .int x1, .int x2, .int x3] "java/lang/IndexOutOfBoundsException") (hrm : rm.cells = 1 ∧ rm.slots = 6) : ZIH l yL_steel wsL_steel (lkR rm 6 1 6) (zX ea mi sa) D T (S := Unit) (ouW out T f :: ((o, .inr (6, vs)) :: wt)) (fun _ => ouW out T f :: ((o, .inr (6, vs)) :: wt)) [.ref o, .int x0, .int x1, .int x2, .int x3] 1 1 6 := by
  refine z_inIHW (cc := cL_steel) (maxL := 6) (hh := [(0, 9, 12, 13), (0, 9, 16, 15)]) (rt := .int) (by decide +kernel) rfl (Nat.le_of_ble_eq_true rfl) ?_
  intro p e s m args below meth c sl9 A Q Z hX htb hnm Mz9 hl9 hret
  have Z : zC p s m args c cL_steel 6 RL wsL_steel D T A := Z
  have hx := Z.1.1
  have hb := Z.1.2.1
  have hts := Z.1.2.2.2.2
  have hl9 : lv_has sl9 6 [(0, .ref o), (1, .int (x0)), (2, .int (x1)), (3, .int (x2)), (4, .int (x3))] := hl9
  obtain ⟨is9, hp1, hp2, hp3⟩ := mid_put2 (ouW out T f) ((o, .inr (6, vs)) :: wt)
  refine lv_aload_n hx hb dL_steel_0 rfl (lv_at hl9 0 rfl) ?_
  refine lv_iload_n hx hb dL_steel_1 rfl (lv_at hl9 1 rfl) ?_
  refine lv_iload_n hx hb dL_steel_2 rfl (lv_at hl9 2 rfl) ?_
  refine lv_iload_n hx hb dL_steel_3 rfl (lv_at hl9 3 rfl) ?_
  refine lv_iload hx hb dL_steel_4 (lv_at hl9 4 rfl) ?_
  refine z_callVx (As := [.int (x0), .int (x1), .int (x2), .int (x3)]) (rest := []) (wc := ((o, .inr (6, vs)) :: wt)) (zW_k ea mi sa) hX.1 Z Mz9 hM (cwV 4 hts gL_steel_X5_steel rfl hrm.1 hrm.2 (by decide +kernel) ⟨Nat.le_refl _, Nat.le_refl _⟩) is9 hp1 hp2 (va_recv Z.2.1 Mz9.1 (ci := 6) (q0 := 1) rfl rfl) rfl hl9.1 (Nat.le_of_ble_eq_true rfl) dL_steel_6 ⟨Nat.le_of_ble_eq_true rfl, Nat.le_of_ble_eq_true rfl⟩ rfl (fun Hp9 lc9 q9 ce Mz9 hcell hv hcl => ?_)
  refine vx_catch (name := "java/lang/IndexOutOfBoundsException") Z.1.2.2.2.1 [] (⟨0, 9, 12, 13⟩ : ExceptionTableEntry) [(⟨0, 9, 16, 15⟩ : ExceptionTableEntry)] htb (fun z hz => absurd hz List.not_mem_nil) (by decide) (by decide) (hts (.classLink RL 13 "java/lang/IndexOutOfBoundsException") (by decide +kernel)) ((zWw hX.1 (w := .castable "java/lang/IndexOutOfBoundsException" "java/lang/IndexOutOfBoundsException") (by decide +kernel)).use rfl) hcell hv hcl ?_
  refine lv_astore (lv' := [(5, .ref q9), (0, .ref o), (1, .int (x0)), (2, .int (x1)), (3, .int (x2)), (4, .int (x3))]) hx hb dL_steel_12 hl9 (by decide) rfl (fun sl9 hl9 => ?_)
  refine lv_iconst (v := 1) hx hb dL_steel_14 (by decide) ?_
  exact hret _ _ _ _ _ sl9 _ _ () Mz9 rfl rfl rfl (Nat.le_of_ble_eq_true rfl) (Nat.le_of_ble_eq_true rfl) dL_steel_15
set_option maxHeartbeats 4000000 in
set_option maxRecDepth 100000 in
theorem lk_steel_2 (l : Launch) (D : va_G) (T : Nat → ClassId) (ea mi : Nat) (sa : Nat → Nat) (o out : Nat) (f : Nat → Int64) (x0 x1 x2 x3 : Int32) {vs : List Value} {wt : va_W} {rm : Room} (hM : ZB l yX5_steel wsX5_steel rm (zW ea mi sa) D T ((o, .inr (6, vs)) :: wt) [.ref o, .int x0, .int x1, .int x2, .int x3] "java/lang/IllegalArgumentException") (hrm : rm.cells = 1 ∧ rm.slots = 6) : ZIH l yL_steel wsL_steel (lkR rm 6 1 6) (zX ea mi sa) D T (S := Unit) (ouW out T f :: ((o, .inr (6, vs)) :: wt)) (fun _ => ouW out T f :: ((o, .inr (6, vs)) :: wt)) [.ref o, .int x0, .int x1, .int x2, .int x3] 2 1 6 := by
  refine z_inIHW (cc := cL_steel) (maxL := 6) (hh := [(0, 9, 12, 13), (0, 9, 16, 15)]) (rt := .int) (by decide +kernel) rfl (Nat.le_of_ble_eq_true rfl) ?_
  intro p e s m args below meth c sl9 A Q Z hX htb hnm Mz9 hl9 hret
  have Z : zC p s m args c cL_steel 6 RL wsL_steel D T A := Z
  have hx := Z.1.1
  have hb := Z.1.2.1
  have hts := Z.1.2.2.2.2
  have hl9 : lv_has sl9 6 [(0, .ref o), (1, .int (x0)), (2, .int (x1)), (3, .int (x2)), (4, .int (x3))] := hl9
  obtain ⟨is9, hp1, hp2, hp3⟩ := mid_put2 (ouW out T f) ((o, .inr (6, vs)) :: wt)
  refine lv_aload_n hx hb dL_steel_0 rfl (lv_at hl9 0 rfl) ?_
  refine lv_iload_n hx hb dL_steel_1 rfl (lv_at hl9 1 rfl) ?_
  refine lv_iload_n hx hb dL_steel_2 rfl (lv_at hl9 2 rfl) ?_
  refine lv_iload_n hx hb dL_steel_3 rfl (lv_at hl9 3 rfl) ?_
  refine lv_iload hx hb dL_steel_4 (lv_at hl9 4 rfl) ?_
  refine z_callVx (As := [.int (x0), .int (x1), .int (x2), .int (x3)]) (rest := []) (wc := ((o, .inr (6, vs)) :: wt)) (zW_k ea mi sa) hX.1 Z Mz9 hM (cwV 4 hts gL_steel_X5_steel rfl hrm.1 hrm.2 (by decide +kernel) ⟨Nat.le_refl _, Nat.le_refl _⟩) is9 hp1 hp2 (va_recv Z.2.1 Mz9.1 (ci := 6) (q0 := 1) rfl rfl) rfl hl9.1 (Nat.le_of_ble_eq_true rfl) dL_steel_6 ⟨Nat.le_of_ble_eq_true rfl, Nat.le_of_ble_eq_true rfl⟩ rfl (fun Hp9 lc9 q9 ce Mz9 hcell hv hcl => ?_)
  refine vx_catch (name := "java/lang/IllegalArgumentException") Z.1.2.2.2.1 [(⟨0, 9, 12, 13⟩ : ExceptionTableEntry)] (⟨0, 9, 16, 15⟩ : ExceptionTableEntry) [] htb (List.forall_mem_cons.mpr ⟨Or.inr ⟨by decide, "java/lang/IndexOutOfBoundsException", hts (.classLink RL 13 "java/lang/IndexOutOfBoundsException") (by decide +kernel), hX.2.1⟩, fun _ hz => absurd hz List.not_mem_nil⟩) (by decide) (by decide) (hts (.classLink RL 15 "java/lang/IllegalArgumentException") (by decide +kernel)) ((zWw hX.1 (w := .castable "java/lang/IllegalArgumentException" "java/lang/IllegalArgumentException") (by decide +kernel)).use rfl) hcell hv hcl ?_
  refine lv_astore (lv' := [(5, .ref q9), (0, .ref o), (1, .int (x0)), (2, .int (x1)), (3, .int (x2)), (4, .int (x3))]) hx hb dL_steel_16 hl9 (by decide) rfl (fun sl9 hl9 => ?_)
  refine lv_iconst (v := 2) hx hb dL_steel_18 (by decide) ?_
  exact hret _ _ _ _ _ sl9 _ _ () Mz9 rfl rfl rfl (Nat.le_of_ble_eq_true rfl) (Nat.le_of_ble_eq_true rfl) dL_steel_19
set_option maxHeartbeats 4000000 in
set_option maxRecDepth 100000 in
theorem lk_melt (l : Launch) (D : va_G) (T : Nat → ClassId) (ea mi : Nat) (sa : Nat → Nat) (o out : Nat) (f : Nat → Int64) (x0 : Int32) {vs : List Value} {wt : va_W} {rm : Room} {S : Type} {w' : S → va_W} {mc ms : Nat} {rv : Int32} (hM : ZIH l yX5_melt wsX5_melt rm (zW ea mi sa) D T (S := S) ((o, .inr (6, vs)) :: wt) w' [.ref o, .int x0] rv mc ms) (hrm : rm.cells = mc ∧ rm.slots = ms) (hf : ∀ (u : S) (j : Nat), j < ((o, .inr (6, vs)) :: wt).length → ((w' u).map Prod.fst)[j]? = (((o, .inr (6, vs)) :: wt).map Prod.fst)[j]?) (hlen : ∀ u : S, ((o, .inr (6, vs)) :: wt).length ≤ (w' u).length) : ZIH l yL_melt wsL_melt (lkR rm 4 mc ms) (zX ea mi sa) D T (S := S) (ouW out T f :: ((o, .inr (6, vs)) :: wt)) (fun u => (out, .inl (T 2, 1, .inr (.inl (vp_updL f (0 : Int32).toNatClampNeg rv.toInt64)))) :: w' u) [.ref o, .int x0, .ref out] 0 mc ms := by
  refine z_inIHW (cc := cL_melt) (maxL := 4) (hh := [(0, 9, 12, 13), (0, 9, 15, 21)]) (rt := .int) (by decide +kernel) rfl (Nat.le_of_ble_eq_true rfl) ?_
  intro p e s m args below meth c sl9 A Q Z hX htb hnm Mz9 hl9 hret
  have Z : zC p s m args c cL_melt 4 RL wsL_melt D T A := Z
  have hx := Z.1.1
  have hb := Z.1.2.1
  have hts := Z.1.2.2.2.2
  have hl9 : lv_has sl9 4 [(0, .ref o), (1, .int (x0)), (2, .ref out)] := hl9
  obtain ⟨is9, hp1, hp2, hp3⟩ := mid_put2 (ouW out T f) ((o, .inr (6, vs)) :: wt)
  refine lv_aload_n hx hb dL_melt_0 rfl (lv_at hl9 2 rfl) ?_
  refine lv_iconst (v := 0) hx hb dL_melt_1 (by decide) ?_
  refine lv_aload_n hx hb dL_melt_2 rfl (lv_at hl9 0 rfl) ?_
  refine lv_iload_n hx hb dL_melt_3 rfl (lv_at hl9 1 rfl) ?_
  refine z_callViH (As := [.int (x0)]) (rest := [.int 0, .ref out]) (wc := ((o, .inr (6, vs)) :: wt)) (zW_k ea mi sa) hX.1 Z Mz9 hM (cwV 1 hts gL_melt_X5_melt rfl hrm.1 hrm.2 (by decide +kernel) ⟨Nat.le_refl _, Nat.le_refl _⟩) is9 hp1 hp2 hf hlen (va_recv Z.2.1 Mz9.1 (ci := 6) (q0 := 1) rfl rfl) rfl hl9.1 (Nat.le_of_ble_eq_true rfl) dL_melt_4 ⟨Nat.le_of_eq (Nat.zero_add _), Nat.le_of_eq (Nat.zero_add _)⟩ rfl (fun u Hp9 lc9 Mz9 => ?_)
  have Mz9 : zM D A s.heap (ouW out T f :: w' u) _ _ := zM_w (hp3 _ (hlen u)) Mz9
  refine lv_i2l (v := rv.toInt64) hx hb dL_melt_7 rfl ?_
  refine va_last hx hb Z.2.1 Mz9.1 Mz9.2.1 Mz9.2.2 0 2 (cA := T 2) (n := 1) (f := f) rfl rfl (i := 0) (by unfold vp_in; decide) dL_melt_8 (fun Hp9 lc9 hP9 hD9 hS9 => ?_)
  have Mz9 : zM D A s.heap ((out, .inl (T 2, 1, .inr (.inl (vp_updL f (0 : Int32).toNatClampNeg rv.toInt64)))) :: w' u) _ _ := ⟨hP9, hD9, hS9⟩
  refine lv_goto (tgt := 18) hx hb dL_melt_9 (by decide) ?_
  refine lv_iconst (v := 0) hx hb dL_melt_18 (by decide) ?_
  exact hret _ _ _ _ _ sl9 _ _ u Mz9 (rfl) rfl rfl (Nat.le_of_eq (Nat.zero_add _)) (Nat.le_of_eq (Nat.zero_add _)) dL_melt_19
set_option maxHeartbeats 4000000 in
set_option maxRecDepth 100000 in
theorem lk_melt_1 (l : Launch) (D : va_G) (T : Nat → ClassId) (ea mi : Nat) (sa : Nat → Nat) (o out : Nat) (f : Nat → Int64) (x0 : Int32) {vs : List Value} {wt : va_W} {rm : Room} (hM : ZB l yX5_melt wsX5_melt rm (zW ea mi sa) D T ((o, .inr (6, vs)) :: wt) [.ref o, .int x0] "java/lang/IndexOutOfBoundsException") (hrm : rm.cells = 1 ∧ rm.slots = 6) : ZIH l yL_melt wsL_melt (lkR rm 4 1 6) (zX ea mi sa) D T (S := Unit) (ouW out T f :: ((o, .inr (6, vs)) :: wt)) (fun _ => ouW out T f :: ((o, .inr (6, vs)) :: wt)) [.ref o, .int x0, .ref out] 1 1 6 := by
  refine z_inIHW (cc := cL_melt) (maxL := 4) (hh := [(0, 9, 12, 13), (0, 9, 15, 21)]) (rt := .int) (by decide +kernel) rfl (Nat.le_of_ble_eq_true rfl) ?_
  intro p e s m args below meth c sl9 A Q Z hX htb hnm Mz9 hl9 hret
  have Z : zC p s m args c cL_melt 4 RL wsL_melt D T A := Z
  have hx := Z.1.1
  have hb := Z.1.2.1
  have hts := Z.1.2.2.2.2
  have hl9 : lv_has sl9 4 [(0, .ref o), (1, .int (x0)), (2, .ref out)] := hl9
  obtain ⟨is9, hp1, hp2, hp3⟩ := mid_put2 (ouW out T f) ((o, .inr (6, vs)) :: wt)
  refine lv_aload_n hx hb dL_melt_0 rfl (lv_at hl9 2 rfl) ?_
  refine lv_iconst (v := 0) hx hb dL_melt_1 (by decide) ?_
  refine lv_aload_n hx hb dL_melt_2 rfl (lv_at hl9 0 rfl) ?_
  refine lv_iload_n hx hb dL_melt_3 rfl (lv_at hl9 1 rfl) ?_
  refine z_callVx (As := [.int (x0)]) (rest := [.int 0, .ref out]) (wc := ((o, .inr (6, vs)) :: wt)) (zW_k ea mi sa) hX.1 Z Mz9 hM (cwV 1 hts gL_melt_X5_melt rfl hrm.1 hrm.2 (by decide +kernel) ⟨Nat.le_refl _, Nat.le_refl _⟩) is9 hp1 hp2 (va_recv Z.2.1 Mz9.1 (ci := 6) (q0 := 1) rfl rfl) rfl hl9.1 (Nat.le_of_ble_eq_true rfl) dL_melt_4 ⟨Nat.le_of_ble_eq_true rfl, Nat.le_of_ble_eq_true rfl⟩ rfl (fun Hp9 lc9 q9 ce Mz9 hcell hv hcl => ?_)
  refine vx_catch (name := "java/lang/IndexOutOfBoundsException") Z.1.2.2.2.1 [] (⟨0, 9, 12, 13⟩ : ExceptionTableEntry) [(⟨0, 9, 15, 21⟩ : ExceptionTableEntry)] htb (fun z hz => absurd hz List.not_mem_nil) (by decide) (by decide) (hts (.classLink RL 13 "java/lang/IndexOutOfBoundsException") (by decide +kernel)) ((zWw hX.1 (w := .castable "java/lang/IndexOutOfBoundsException" "java/lang/IndexOutOfBoundsException") (by decide +kernel)).use rfl) hcell hv hcl ?_
  refine lv_astore_n (lv' := [(3, .ref q9), (0, .ref o), (1, .int (x0)), (2, .ref out)]) hx hb dL_melt_12 rfl hl9 (by decide) rfl (fun sl9 hl9 => ?_)
  refine lv_iconst (v := 1) hx hb dL_melt_13 (by decide) ?_
  exact hret _ _ _ _ _ sl9 _ _ () Mz9 rfl rfl rfl (Nat.le_of_ble_eq_true rfl) (Nat.le_of_ble_eq_true rfl) dL_melt_14
set_option maxHeartbeats 4000000 in
set_option maxRecDepth 100000 in
theorem lk_melt_2 (l : Launch) (D : va_G) (T : Nat → ClassId) (ea mi : Nat) (sa : Nat → Nat) (o out : Nat) (f : Nat → Int64) (x0 : Int32) {vs : List Value} {wt : va_W} {rm : Room} (hM : ZB l yX5_melt wsX5_melt rm (zW ea mi sa) D T ((o, .inr (6, vs)) :: wt) [.ref o, .int x0] "java/lang/IllegalStateException") (hrm : rm.cells = 1 ∧ rm.slots = 6) : ZIH l yL_melt wsL_melt (lkR rm 4 1 6) (zX ea mi sa) D T (S := Unit) (ouW out T f :: ((o, .inr (6, vs)) :: wt)) (fun _ => ouW out T f :: ((o, .inr (6, vs)) :: wt)) [.ref o, .int x0, .ref out] 2 1 6 := by
  refine z_inIHW (cc := cL_melt) (maxL := 4) (hh := [(0, 9, 12, 13), (0, 9, 15, 21)]) (rt := .int) (by decide +kernel) rfl (Nat.le_of_ble_eq_true rfl) ?_
  intro p e s m args below meth c sl9 A Q Z hX htb hnm Mz9 hl9 hret
  have Z : zC p s m args c cL_melt 4 RL wsL_melt D T A := Z
  have hx := Z.1.1
  have hb := Z.1.2.1
  have hts := Z.1.2.2.2.2
  have hl9 : lv_has sl9 4 [(0, .ref o), (1, .int (x0)), (2, .ref out)] := hl9
  obtain ⟨is9, hp1, hp2, hp3⟩ := mid_put2 (ouW out T f) ((o, .inr (6, vs)) :: wt)
  refine lv_aload_n hx hb dL_melt_0 rfl (lv_at hl9 2 rfl) ?_
  refine lv_iconst (v := 0) hx hb dL_melt_1 (by decide) ?_
  refine lv_aload_n hx hb dL_melt_2 rfl (lv_at hl9 0 rfl) ?_
  refine lv_iload_n hx hb dL_melt_3 rfl (lv_at hl9 1 rfl) ?_
  refine z_callVx (As := [.int (x0)]) (rest := [.int 0, .ref out]) (wc := ((o, .inr (6, vs)) :: wt)) (zW_k ea mi sa) hX.1 Z Mz9 hM (cwV 1 hts gL_melt_X5_melt rfl hrm.1 hrm.2 (by decide +kernel) ⟨Nat.le_refl _, Nat.le_refl _⟩) is9 hp1 hp2 (va_recv Z.2.1 Mz9.1 (ci := 6) (q0 := 1) rfl rfl) rfl hl9.1 (Nat.le_of_ble_eq_true rfl) dL_melt_4 ⟨Nat.le_of_ble_eq_true rfl, Nat.le_of_ble_eq_true rfl⟩ rfl (fun Hp9 lc9 q9 ce Mz9 hcell hv hcl => ?_)
  refine vx_catch (name := "java/lang/IllegalStateException") Z.1.2.2.2.1 [(⟨0, 9, 12, 13⟩ : ExceptionTableEntry)] (⟨0, 9, 15, 21⟩ : ExceptionTableEntry) [] htb (List.forall_mem_cons.mpr ⟨Or.inr ⟨by decide, "java/lang/IndexOutOfBoundsException", hts (.classLink RL 13 "java/lang/IndexOutOfBoundsException") (by decide +kernel), hX.2.2.1⟩, fun _ hz => absurd hz List.not_mem_nil⟩) (by decide) (by decide) (hts (.classLink RL 21 "java/lang/IllegalStateException") (by decide +kernel)) ((zWw hX.1 (w := .castable "java/lang/IllegalStateException" "java/lang/IllegalStateException") (by decide +kernel)).use rfl) hcell hv hcl ?_
  refine lv_astore_n (lv' := [(3, .ref q9), (0, .ref o), (1, .int (x0)), (2, .ref out)]) hx hb dL_melt_15 rfl hl9 (by decide) rfl (fun sl9 hl9 => ?_)
  refine lv_iconst (v := 2) hx hb dL_melt_16 (by decide) ?_
  exact hret _ _ _ _ _ sl9 _ _ () Mz9 rfl rfl rfl (Nat.le_of_ble_eq_true rfl) (Nat.le_of_ble_eq_true rfl) dL_melt_17
set_option maxHeartbeats 4000000 in
set_option maxRecDepth 100000 in
theorem lk_billet (l : Launch) (D : va_G) (T : Nat → ClassId) (ea mi : Nat) (sa : Nat → Nat) (o out : Nat) (f : Nat → Int64) (x0 x1 : Int32) {vs : List Value} {wt : va_W} {rm : Room} {S : Type} {w' : S → va_W} {mc ms : Nat} {rv : Int32} (hM : ZIH l yX5_billet wsX5_billet rm (zW ea mi sa) D T (S := S) ((o, .inr (6, vs)) :: wt) w' [.ref o, .int x0, .int x1] rv mc ms) (hrm : rm.cells = mc ∧ rm.slots = ms) (hf : ∀ (u : S) (j : Nat), j < ((o, .inr (6, vs)) :: wt).length → ((w' u).map Prod.fst)[j]? = (((o, .inr (6, vs)) :: wt).map Prod.fst)[j]?) (hlen : ∀ u : S, ((o, .inr (6, vs)) :: wt).length ≤ (w' u).length) : ZIH l yL_billet wsL_billet (lkR rm 4 mc ms) (zX ea mi sa) D T (S := S) (ouW out T f :: ((o, .inr (6, vs)) :: wt)) (fun u => (out, .inl (T 2, 1, .inr (.inl (vp_updL f (0 : Int32).toNatClampNeg rv.toInt64)))) :: w' u) [.ref o, .int x0, .int x1, .ref out] 0 mc ms := by
  refine z_inIHW (cc := cL_billet) (maxL := 5) (hh := [(0, 10, 13, 13), (0, 10, 17, 15), (0, 10, 21, 21)]) (rt := .int) (by decide +kernel) rfl (Nat.le_of_ble_eq_true rfl) ?_
  intro p e s m args below meth c sl9 A Q Z hX htb hnm Mz9 hl9 hret
  have Z : zC p s m args c cL_billet 5 RL wsL_billet D T A := Z
  have hx := Z.1.1
  have hb := Z.1.2.1
  have hts := Z.1.2.2.2.2
  have hl9 : lv_has sl9 5 [(0, .ref o), (1, .int (x0)), (2, .int (x1)), (3, .ref out)] := hl9
  obtain ⟨is9, hp1, hp2, hp3⟩ := mid_put2 (ouW out T f) ((o, .inr (6, vs)) :: wt)
  refine lv_aload_n hx hb dL_billet_0 rfl (lv_at hl9 3 rfl) ?_
  refine lv_iconst (v := 0) hx hb dL_billet_1 (by decide) ?_
  refine lv_aload_n hx hb dL_billet_2 rfl (lv_at hl9 0 rfl) ?_
  refine lv_iload_n hx hb dL_billet_3 rfl (lv_at hl9 1 rfl) ?_
  refine lv_iload_n hx hb dL_billet_4 rfl (lv_at hl9 2 rfl) ?_
  refine z_callViH (As := [.int (x0), .int (x1)]) (rest := [.int 0, .ref out]) (wc := ((o, .inr (6, vs)) :: wt)) (zW_k ea mi sa) hX.1 Z Mz9 hM (cwV 2 hts gL_billet_X5_billet rfl hrm.1 hrm.2 (by decide +kernel) ⟨Nat.le_refl _, Nat.le_refl _⟩) is9 hp1 hp2 hf hlen (va_recv Z.2.1 Mz9.1 (ci := 6) (q0 := 1) rfl rfl) rfl hl9.1 (Nat.le_of_ble_eq_true rfl) dL_billet_5 ⟨Nat.le_of_eq (Nat.zero_add _), Nat.le_of_eq (Nat.zero_add _)⟩ rfl (fun u Hp9 lc9 Mz9 => ?_)
  have Mz9 : zM D A s.heap (ouW out T f :: w' u) _ _ := zM_w (hp3 _ (hlen u)) Mz9
  refine lv_i2l (v := rv.toInt64) hx hb dL_billet_8 rfl ?_
  refine va_last hx hb Z.2.1 Mz9.1 Mz9.2.1 Mz9.2.2 0 2 (cA := T 2) (n := 1) (f := f) rfl rfl (i := 0) (by unfold vp_in; decide) dL_billet_9 (fun Hp9 lc9 hP9 hD9 hS9 => ?_)
  have Mz9 : zM D A s.heap ((out, .inl (T 2, 1, .inr (.inl (vp_updL f (0 : Int32).toNatClampNeg rv.toInt64)))) :: w' u) _ _ := ⟨hP9, hD9, hS9⟩
  refine lv_goto (tgt := 25) hx hb dL_billet_10 (by decide) ?_
  refine lv_iconst (v := 0) hx hb dL_billet_25 (by decide) ?_
  exact hret _ _ _ _ _ sl9 _ _ u Mz9 (rfl) rfl rfl (Nat.le_of_eq (Nat.zero_add _)) (Nat.le_of_eq (Nat.zero_add _)) dL_billet_26
set_option maxHeartbeats 4000000 in
set_option maxRecDepth 100000 in
theorem lk_billet_1 (l : Launch) (D : va_G) (T : Nat → ClassId) (ea mi : Nat) (sa : Nat → Nat) (o out : Nat) (f : Nat → Int64) (x0 x1 : Int32) {vs : List Value} {wt : va_W} {rm : Room} (hM : ZB l yX5_billet wsX5_billet rm (zW ea mi sa) D T ((o, .inr (6, vs)) :: wt) [.ref o, .int x0, .int x1] "java/lang/IndexOutOfBoundsException") (hrm : rm.cells = 1 ∧ rm.slots = 6) : ZIH l yL_billet wsL_billet (lkR rm 4 1 6) (zX ea mi sa) D T (S := Unit) (ouW out T f :: ((o, .inr (6, vs)) :: wt)) (fun _ => ouW out T f :: ((o, .inr (6, vs)) :: wt)) [.ref o, .int x0, .int x1, .ref out] 1 1 6 := by
  refine z_inIHW (cc := cL_billet) (maxL := 5) (hh := [(0, 10, 13, 13), (0, 10, 17, 15), (0, 10, 21, 21)]) (rt := .int) (by decide +kernel) rfl (Nat.le_of_ble_eq_true rfl) ?_
  intro p e s m args below meth c sl9 A Q Z hX htb hnm Mz9 hl9 hret
  have Z : zC p s m args c cL_billet 5 RL wsL_billet D T A := Z
  have hx := Z.1.1
  have hb := Z.1.2.1
  have hts := Z.1.2.2.2.2
  have hl9 : lv_has sl9 5 [(0, .ref o), (1, .int (x0)), (2, .int (x1)), (3, .ref out)] := hl9
  obtain ⟨is9, hp1, hp2, hp3⟩ := mid_put2 (ouW out T f) ((o, .inr (6, vs)) :: wt)
  refine lv_aload_n hx hb dL_billet_0 rfl (lv_at hl9 3 rfl) ?_
  refine lv_iconst (v := 0) hx hb dL_billet_1 (by decide) ?_
  refine lv_aload_n hx hb dL_billet_2 rfl (lv_at hl9 0 rfl) ?_
  refine lv_iload_n hx hb dL_billet_3 rfl (lv_at hl9 1 rfl) ?_
  refine lv_iload_n hx hb dL_billet_4 rfl (lv_at hl9 2 rfl) ?_
  refine z_callVx (As := [.int (x0), .int (x1)]) (rest := [.int 0, .ref out]) (wc := ((o, .inr (6, vs)) :: wt)) (zW_k ea mi sa) hX.1 Z Mz9 hM (cwV 2 hts gL_billet_X5_billet rfl hrm.1 hrm.2 (by decide +kernel) ⟨Nat.le_refl _, Nat.le_refl _⟩) is9 hp1 hp2 (va_recv Z.2.1 Mz9.1 (ci := 6) (q0 := 1) rfl rfl) rfl hl9.1 (Nat.le_of_ble_eq_true rfl) dL_billet_5 ⟨Nat.le_of_ble_eq_true rfl, Nat.le_of_ble_eq_true rfl⟩ rfl (fun Hp9 lc9 q9 ce Mz9 hcell hv hcl => ?_)
  refine vx_catch (name := "java/lang/IndexOutOfBoundsException") Z.1.2.2.2.1 [] (⟨0, 10, 13, 13⟩ : ExceptionTableEntry) [(⟨0, 10, 17, 15⟩ : ExceptionTableEntry), (⟨0, 10, 21, 21⟩ : ExceptionTableEntry)] htb (fun z hz => absurd hz List.not_mem_nil) (by decide) (by decide) (hts (.classLink RL 13 "java/lang/IndexOutOfBoundsException") (by decide +kernel)) ((zWw hX.1 (w := .castable "java/lang/IndexOutOfBoundsException" "java/lang/IndexOutOfBoundsException") (by decide +kernel)).use rfl) hcell hv hcl ?_
  refine lv_astore (lv' := [(4, .ref q9), (0, .ref o), (1, .int (x0)), (2, .int (x1)), (3, .ref out)]) hx hb dL_billet_13 hl9 (by decide) rfl (fun sl9 hl9 => ?_)
  refine lv_iconst (v := 1) hx hb dL_billet_15 (by decide) ?_
  exact hret _ _ _ _ _ sl9 _ _ () Mz9 rfl rfl rfl (Nat.le_of_ble_eq_true rfl) (Nat.le_of_ble_eq_true rfl) dL_billet_16
set_option maxHeartbeats 4000000 in
set_option maxRecDepth 100000 in
theorem lk_billet_2 (l : Launch) (D : va_G) (T : Nat → ClassId) (ea mi : Nat) (sa : Nat → Nat) (o out : Nat) (f : Nat → Int64) (x0 x1 : Int32) {vs : List Value} {wt : va_W} {rm : Room} (hM : ZB l yX5_billet wsX5_billet rm (zW ea mi sa) D T ((o, .inr (6, vs)) :: wt) [.ref o, .int x0, .int x1] "java/lang/IllegalArgumentException") (hrm : rm.cells = 1 ∧ rm.slots = 6) : ZIH l yL_billet wsL_billet (lkR rm 4 1 6) (zX ea mi sa) D T (S := Unit) (ouW out T f :: ((o, .inr (6, vs)) :: wt)) (fun _ => ouW out T f :: ((o, .inr (6, vs)) :: wt)) [.ref o, .int x0, .int x1, .ref out] 2 1 6 := by
  refine z_inIHW (cc := cL_billet) (maxL := 5) (hh := [(0, 10, 13, 13), (0, 10, 17, 15), (0, 10, 21, 21)]) (rt := .int) (by decide +kernel) rfl (Nat.le_of_ble_eq_true rfl) ?_
  intro p e s m args below meth c sl9 A Q Z hX htb hnm Mz9 hl9 hret
  have Z : zC p s m args c cL_billet 5 RL wsL_billet D T A := Z
  have hx := Z.1.1
  have hb := Z.1.2.1
  have hts := Z.1.2.2.2.2
  have hl9 : lv_has sl9 5 [(0, .ref o), (1, .int (x0)), (2, .int (x1)), (3, .ref out)] := hl9
  obtain ⟨is9, hp1, hp2, hp3⟩ := mid_put2 (ouW out T f) ((o, .inr (6, vs)) :: wt)
  refine lv_aload_n hx hb dL_billet_0 rfl (lv_at hl9 3 rfl) ?_
  refine lv_iconst (v := 0) hx hb dL_billet_1 (by decide) ?_
  refine lv_aload_n hx hb dL_billet_2 rfl (lv_at hl9 0 rfl) ?_
  refine lv_iload_n hx hb dL_billet_3 rfl (lv_at hl9 1 rfl) ?_
  refine lv_iload_n hx hb dL_billet_4 rfl (lv_at hl9 2 rfl) ?_
  refine z_callVx (As := [.int (x0), .int (x1)]) (rest := [.int 0, .ref out]) (wc := ((o, .inr (6, vs)) :: wt)) (zW_k ea mi sa) hX.1 Z Mz9 hM (cwV 2 hts gL_billet_X5_billet rfl hrm.1 hrm.2 (by decide +kernel) ⟨Nat.le_refl _, Nat.le_refl _⟩) is9 hp1 hp2 (va_recv Z.2.1 Mz9.1 (ci := 6) (q0 := 1) rfl rfl) rfl hl9.1 (Nat.le_of_ble_eq_true rfl) dL_billet_5 ⟨Nat.le_of_ble_eq_true rfl, Nat.le_of_ble_eq_true rfl⟩ rfl (fun Hp9 lc9 q9 ce Mz9 hcell hv hcl => ?_)
  refine vx_catch (name := "java/lang/IllegalArgumentException") Z.1.2.2.2.1 [(⟨0, 10, 13, 13⟩ : ExceptionTableEntry)] (⟨0, 10, 17, 15⟩ : ExceptionTableEntry) [(⟨0, 10, 21, 21⟩ : ExceptionTableEntry)] htb (List.forall_mem_cons.mpr ⟨Or.inr ⟨by decide, "java/lang/IndexOutOfBoundsException", hts (.classLink RL 13 "java/lang/IndexOutOfBoundsException") (by decide +kernel), hX.2.1⟩, fun _ hz => absurd hz List.not_mem_nil⟩) (by decide) (by decide) (hts (.classLink RL 15 "java/lang/IllegalArgumentException") (by decide +kernel)) ((zWw hX.1 (w := .castable "java/lang/IllegalArgumentException" "java/lang/IllegalArgumentException") (by decide +kernel)).use rfl) hcell hv hcl ?_
  refine lv_astore (lv' := [(4, .ref q9), (0, .ref o), (1, .int (x0)), (2, .int (x1)), (3, .ref out)]) hx hb dL_billet_17 hl9 (by decide) rfl (fun sl9 hl9 => ?_)
  refine lv_iconst (v := 2) hx hb dL_billet_19 (by decide) ?_
  exact hret _ _ _ _ _ sl9 _ _ () Mz9 rfl rfl rfl (Nat.le_of_ble_eq_true rfl) (Nat.le_of_ble_eq_true rfl) dL_billet_20
set_option maxHeartbeats 4000000 in
set_option maxRecDepth 100000 in
theorem lk_billet_3 (l : Launch) (D : va_G) (T : Nat → ClassId) (ea mi : Nat) (sa : Nat → Nat) (o out : Nat) (f : Nat → Int64) (x0 x1 : Int32) {vs : List Value} {wt : va_W} {rm : Room} (hM : ZB l yX5_billet wsX5_billet rm (zW ea mi sa) D T ((o, .inr (6, vs)) :: wt) [.ref o, .int x0, .int x1] "java/lang/IllegalStateException") (hrm : rm.cells = 1 ∧ rm.slots = 6) : ZIH l yL_billet wsL_billet (lkR rm 4 1 6) (zX ea mi sa) D T (S := Unit) (ouW out T f :: ((o, .inr (6, vs)) :: wt)) (fun _ => ouW out T f :: ((o, .inr (6, vs)) :: wt)) [.ref o, .int x0, .int x1, .ref out] 3 1 6 := by
  refine z_inIHW (cc := cL_billet) (maxL := 5) (hh := [(0, 10, 13, 13), (0, 10, 17, 15), (0, 10, 21, 21)]) (rt := .int) (by decide +kernel) rfl (Nat.le_of_ble_eq_true rfl) ?_
  intro p e s m args below meth c sl9 A Q Z hX htb hnm Mz9 hl9 hret
  have Z : zC p s m args c cL_billet 5 RL wsL_billet D T A := Z
  have hx := Z.1.1
  have hb := Z.1.2.1
  have hts := Z.1.2.2.2.2
  have hl9 : lv_has sl9 5 [(0, .ref o), (1, .int (x0)), (2, .int (x1)), (3, .ref out)] := hl9
  obtain ⟨is9, hp1, hp2, hp3⟩ := mid_put2 (ouW out T f) ((o, .inr (6, vs)) :: wt)
  refine lv_aload_n hx hb dL_billet_0 rfl (lv_at hl9 3 rfl) ?_
  refine lv_iconst (v := 0) hx hb dL_billet_1 (by decide) ?_
  refine lv_aload_n hx hb dL_billet_2 rfl (lv_at hl9 0 rfl) ?_
  refine lv_iload_n hx hb dL_billet_3 rfl (lv_at hl9 1 rfl) ?_
  refine lv_iload_n hx hb dL_billet_4 rfl (lv_at hl9 2 rfl) ?_
  refine z_callVx (As := [.int (x0), .int (x1)]) (rest := [.int 0, .ref out]) (wc := ((o, .inr (6, vs)) :: wt)) (zW_k ea mi sa) hX.1 Z Mz9 hM (cwV 2 hts gL_billet_X5_billet rfl hrm.1 hrm.2 (by decide +kernel) ⟨Nat.le_refl _, Nat.le_refl _⟩) is9 hp1 hp2 (va_recv Z.2.1 Mz9.1 (ci := 6) (q0 := 1) rfl rfl) rfl hl9.1 (Nat.le_of_ble_eq_true rfl) dL_billet_5 ⟨Nat.le_of_ble_eq_true rfl, Nat.le_of_ble_eq_true rfl⟩ rfl (fun Hp9 lc9 q9 ce Mz9 hcell hv hcl => ?_)
  refine vx_catch (name := "java/lang/IllegalStateException") Z.1.2.2.2.1 [(⟨0, 10, 13, 13⟩ : ExceptionTableEntry), (⟨0, 10, 17, 15⟩ : ExceptionTableEntry)] (⟨0, 10, 21, 21⟩ : ExceptionTableEntry) [] htb (List.forall_mem_cons.mpr ⟨Or.inr ⟨by decide, "java/lang/IndexOutOfBoundsException", hts (.classLink RL 13 "java/lang/IndexOutOfBoundsException") (by decide +kernel), hX.2.2.1⟩, List.forall_mem_cons.mpr ⟨Or.inr ⟨by decide, "java/lang/IllegalArgumentException", hts (.classLink RL 15 "java/lang/IllegalArgumentException") (by decide +kernel), hX.2.2.2⟩, fun _ hz => absurd hz List.not_mem_nil⟩⟩) (by decide) (by decide) (hts (.classLink RL 21 "java/lang/IllegalStateException") (by decide +kernel)) ((zWw hX.1 (w := .castable "java/lang/IllegalStateException" "java/lang/IllegalStateException") (by decide +kernel)).use rfl) hcell hv hcl ?_
  refine lv_astore (lv' := [(4, .ref q9), (0, .ref o), (1, .int (x0)), (2, .int (x1)), (3, .ref out)]) hx hb dL_billet_21 hl9 (by decide) rfl (fun sl9 hl9 => ?_)
  refine lv_iconst (v := 3) hx hb dL_billet_23 (by decide) ?_
  exact hret _ _ _ _ _ sl9 _ _ () Mz9 rfl rfl rfl (Nat.le_of_ble_eq_true rfl) (Nat.le_of_ble_eq_true rfl) dL_billet_24
set_option maxHeartbeats 4000000 in
set_option maxRecDepth 100000 in
theorem lk_billetIs (l : Launch) (D : va_G) (T : Nat → ClassId) (ea mi : Nat) (sa : Nat → Nat) (o out : Nat) (f : Nat → Int64) (x0 x1 : Int32) {vs : List Value} {wt : va_W} {rm : Room} {S : Type} {w' : S → va_W} {mc ms : Nat} {rv : Int32} (hM : ZIH l yX5_billetIs wsX5_billetIs rm (zW ea mi sa) D T (S := S) ((o, .inr (6, vs)) :: wt) w' [.ref o, .int x0, .int x1] rv mc ms) (hrm : rm.cells = mc ∧ rm.slots = ms) (hf : ∀ (u : S) (j : Nat), j < ((o, .inr (6, vs)) :: wt).length → ((w' u).map Prod.fst)[j]? = (((o, .inr (6, vs)) :: wt).map Prod.fst)[j]?) (hlen : ∀ u : S, ((o, .inr (6, vs)) :: wt).length ≤ (w' u).length) : ZIH l yL_billetIs wsL_billetIs (lkR rm 4 mc ms) (zX ea mi sa) D T (S := S) (ouW out T f :: ((o, .inr (6, vs)) :: wt)) (fun u => (out, .inl (T 2, 1, .inr (.inl (vp_updL f (0 : Int32).toNatClampNeg rv.toInt64)))) :: w' u) [.ref o, .int x0, .int x1, .ref out] 0 mc ms := by
  refine z_inIHW (cc := cL_billetIs) (maxL := 5) (hh := [(0, 10, 13, 13), (0, 10, 17, 15)]) (rt := .int) (by decide +kernel) rfl (Nat.le_of_ble_eq_true rfl) ?_
  intro p e s m args below meth c sl9 A Q Z hX htb hnm Mz9 hl9 hret
  have Z : zC p s m args c cL_billetIs 5 RL wsL_billetIs D T A := Z
  have hx := Z.1.1
  have hb := Z.1.2.1
  have hts := Z.1.2.2.2.2
  have hl9 : lv_has sl9 5 [(0, .ref o), (1, .int (x0)), (2, .int (x1)), (3, .ref out)] := hl9
  obtain ⟨is9, hp1, hp2, hp3⟩ := mid_put2 (ouW out T f) ((o, .inr (6, vs)) :: wt)
  refine lv_aload_n hx hb dL_billetIs_0 rfl (lv_at hl9 3 rfl) ?_
  refine lv_iconst (v := 0) hx hb dL_billetIs_1 (by decide) ?_
  refine lv_aload_n hx hb dL_billetIs_2 rfl (lv_at hl9 0 rfl) ?_
  refine lv_iload_n hx hb dL_billetIs_3 rfl (lv_at hl9 1 rfl) ?_
  refine lv_iload_n hx hb dL_billetIs_4 rfl (lv_at hl9 2 rfl) ?_
  refine z_callViH (As := [.int (x0), .int (x1)]) (rest := [.int 0, .ref out]) (wc := ((o, .inr (6, vs)) :: wt)) (zW_k ea mi sa) hX.1 Z Mz9 hM (cwV 2 hts gL_billetIs_X5_billetIs rfl hrm.1 hrm.2 (by decide +kernel) ⟨Nat.le_refl _, Nat.le_refl _⟩) is9 hp1 hp2 hf hlen (va_recv Z.2.1 Mz9.1 (ci := 6) (q0 := 1) rfl rfl) rfl hl9.1 (Nat.le_of_ble_eq_true rfl) dL_billetIs_5 ⟨Nat.le_of_eq (Nat.zero_add _), Nat.le_of_eq (Nat.zero_add _)⟩ rfl (fun u Hp9 lc9 Mz9 => ?_)
  have Mz9 : zM D A s.heap (ouW out T f :: w' u) _ _ := zM_w (hp3 _ (hlen u)) Mz9
  refine lv_i2l (v := rv.toInt64) hx hb dL_billetIs_8 rfl ?_
  refine va_last hx hb Z.2.1 Mz9.1 Mz9.2.1 Mz9.2.2 0 2 (cA := T 2) (n := 1) (f := f) rfl rfl (i := 0) (by unfold vp_in; decide) dL_billetIs_9 (fun Hp9 lc9 hP9 hD9 hS9 => ?_)
  have Mz9 : zM D A s.heap ((out, .inl (T 2, 1, .inr (.inl (vp_updL f (0 : Int32).toNatClampNeg rv.toInt64)))) :: w' u) _ _ := ⟨hP9, hD9, hS9⟩
  refine lv_goto (tgt := 21) hx hb dL_billetIs_10 (by decide) ?_
  refine lv_iconst (v := 0) hx hb dL_billetIs_21 (by decide) ?_
  exact hret _ _ _ _ _ sl9 _ _ u Mz9 (rfl) rfl rfl (Nat.le_of_eq (Nat.zero_add _)) (Nat.le_of_eq (Nat.zero_add _)) dL_billetIs_22
set_option maxHeartbeats 4000000 in
set_option maxRecDepth 100000 in
theorem lk_billetIs_1 (l : Launch) (D : va_G) (T : Nat → ClassId) (ea mi : Nat) (sa : Nat → Nat) (o out : Nat) (f : Nat → Int64) (x0 x1 : Int32) {vs : List Value} {wt : va_W} {rm : Room} (hM : ZB l yX5_billetIs wsX5_billetIs rm (zW ea mi sa) D T ((o, .inr (6, vs)) :: wt) [.ref o, .int x0, .int x1] "java/lang/IndexOutOfBoundsException") (hrm : rm.cells = 1 ∧ rm.slots = 6) : ZIH l yL_billetIs wsL_billetIs (lkR rm 4 1 6) (zX ea mi sa) D T (S := Unit) (ouW out T f :: ((o, .inr (6, vs)) :: wt)) (fun _ => ouW out T f :: ((o, .inr (6, vs)) :: wt)) [.ref o, .int x0, .int x1, .ref out] 1 1 6 := by
  refine z_inIHW (cc := cL_billetIs) (maxL := 5) (hh := [(0, 10, 13, 13), (0, 10, 17, 15)]) (rt := .int) (by decide +kernel) rfl (Nat.le_of_ble_eq_true rfl) ?_
  intro p e s m args below meth c sl9 A Q Z hX htb hnm Mz9 hl9 hret
  have Z : zC p s m args c cL_billetIs 5 RL wsL_billetIs D T A := Z
  have hx := Z.1.1
  have hb := Z.1.2.1
  have hts := Z.1.2.2.2.2
  have hl9 : lv_has sl9 5 [(0, .ref o), (1, .int (x0)), (2, .int (x1)), (3, .ref out)] := hl9
  obtain ⟨is9, hp1, hp2, hp3⟩ := mid_put2 (ouW out T f) ((o, .inr (6, vs)) :: wt)
  refine lv_aload_n hx hb dL_billetIs_0 rfl (lv_at hl9 3 rfl) ?_
  refine lv_iconst (v := 0) hx hb dL_billetIs_1 (by decide) ?_
  refine lv_aload_n hx hb dL_billetIs_2 rfl (lv_at hl9 0 rfl) ?_
  refine lv_iload_n hx hb dL_billetIs_3 rfl (lv_at hl9 1 rfl) ?_
  refine lv_iload_n hx hb dL_billetIs_4 rfl (lv_at hl9 2 rfl) ?_
  refine z_callVx (As := [.int (x0), .int (x1)]) (rest := [.int 0, .ref out]) (wc := ((o, .inr (6, vs)) :: wt)) (zW_k ea mi sa) hX.1 Z Mz9 hM (cwV 2 hts gL_billetIs_X5_billetIs rfl hrm.1 hrm.2 (by decide +kernel) ⟨Nat.le_refl _, Nat.le_refl _⟩) is9 hp1 hp2 (va_recv Z.2.1 Mz9.1 (ci := 6) (q0 := 1) rfl rfl) rfl hl9.1 (Nat.le_of_ble_eq_true rfl) dL_billetIs_5 ⟨Nat.le_of_ble_eq_true rfl, Nat.le_of_ble_eq_true rfl⟩ rfl (fun Hp9 lc9 q9 ce Mz9 hcell hv hcl => ?_)
  refine vx_catch (name := "java/lang/IndexOutOfBoundsException") Z.1.2.2.2.1 [] (⟨0, 10, 13, 13⟩ : ExceptionTableEntry) [(⟨0, 10, 17, 15⟩ : ExceptionTableEntry)] htb (fun z hz => absurd hz List.not_mem_nil) (by decide) (by decide) (hts (.classLink RL 13 "java/lang/IndexOutOfBoundsException") (by decide +kernel)) ((zWw hX.1 (w := .castable "java/lang/IndexOutOfBoundsException" "java/lang/IndexOutOfBoundsException") (by decide +kernel)).use rfl) hcell hv hcl ?_
  refine lv_astore (lv' := [(4, .ref q9), (0, .ref o), (1, .int (x0)), (2, .int (x1)), (3, .ref out)]) hx hb dL_billetIs_13 hl9 (by decide) rfl (fun sl9 hl9 => ?_)
  refine lv_iconst (v := 1) hx hb dL_billetIs_15 (by decide) ?_
  exact hret _ _ _ _ _ sl9 _ _ () Mz9 rfl rfl rfl (Nat.le_of_ble_eq_true rfl) (Nat.le_of_ble_eq_true rfl) dL_billetIs_16
set_option maxHeartbeats 4000000 in
set_option maxRecDepth 100000 in
theorem lk_billetIs_2 (l : Launch) (D : va_G) (T : Nat → ClassId) (ea mi : Nat) (sa : Nat → Nat) (o out : Nat) (f : Nat → Int64) (x0 x1 : Int32) {vs : List Value} {wt : va_W} {rm : Room} (hM : ZB l yX5_billetIs wsX5_billetIs rm (zW ea mi sa) D T ((o, .inr (6, vs)) :: wt) [.ref o, .int x0, .int x1] "java/lang/IllegalArgumentException") (hrm : rm.cells = 1 ∧ rm.slots = 6) : ZIH l yL_billetIs wsL_billetIs (lkR rm 4 1 6) (zX ea mi sa) D T (S := Unit) (ouW out T f :: ((o, .inr (6, vs)) :: wt)) (fun _ => ouW out T f :: ((o, .inr (6, vs)) :: wt)) [.ref o, .int x0, .int x1, .ref out] 2 1 6 := by
  refine z_inIHW (cc := cL_billetIs) (maxL := 5) (hh := [(0, 10, 13, 13), (0, 10, 17, 15)]) (rt := .int) (by decide +kernel) rfl (Nat.le_of_ble_eq_true rfl) ?_
  intro p e s m args below meth c sl9 A Q Z hX htb hnm Mz9 hl9 hret
  have Z : zC p s m args c cL_billetIs 5 RL wsL_billetIs D T A := Z
  have hx := Z.1.1
  have hb := Z.1.2.1
  have hts := Z.1.2.2.2.2
  have hl9 : lv_has sl9 5 [(0, .ref o), (1, .int (x0)), (2, .int (x1)), (3, .ref out)] := hl9
  obtain ⟨is9, hp1, hp2, hp3⟩ := mid_put2 (ouW out T f) ((o, .inr (6, vs)) :: wt)
  refine lv_aload_n hx hb dL_billetIs_0 rfl (lv_at hl9 3 rfl) ?_
  refine lv_iconst (v := 0) hx hb dL_billetIs_1 (by decide) ?_
  refine lv_aload_n hx hb dL_billetIs_2 rfl (lv_at hl9 0 rfl) ?_
  refine lv_iload_n hx hb dL_billetIs_3 rfl (lv_at hl9 1 rfl) ?_
  refine lv_iload_n hx hb dL_billetIs_4 rfl (lv_at hl9 2 rfl) ?_
  refine z_callVx (As := [.int (x0), .int (x1)]) (rest := [.int 0, .ref out]) (wc := ((o, .inr (6, vs)) :: wt)) (zW_k ea mi sa) hX.1 Z Mz9 hM (cwV 2 hts gL_billetIs_X5_billetIs rfl hrm.1 hrm.2 (by decide +kernel) ⟨Nat.le_refl _, Nat.le_refl _⟩) is9 hp1 hp2 (va_recv Z.2.1 Mz9.1 (ci := 6) (q0 := 1) rfl rfl) rfl hl9.1 (Nat.le_of_ble_eq_true rfl) dL_billetIs_5 ⟨Nat.le_of_ble_eq_true rfl, Nat.le_of_ble_eq_true rfl⟩ rfl (fun Hp9 lc9 q9 ce Mz9 hcell hv hcl => ?_)
  refine vx_catch (name := "java/lang/IllegalArgumentException") Z.1.2.2.2.1 [(⟨0, 10, 13, 13⟩ : ExceptionTableEntry)] (⟨0, 10, 17, 15⟩ : ExceptionTableEntry) [] htb (List.forall_mem_cons.mpr ⟨Or.inr ⟨by decide, "java/lang/IndexOutOfBoundsException", hts (.classLink RL 13 "java/lang/IndexOutOfBoundsException") (by decide +kernel), hX.2.1⟩, fun _ hz => absurd hz List.not_mem_nil⟩) (by decide) (by decide) (hts (.classLink RL 15 "java/lang/IllegalArgumentException") (by decide +kernel)) ((zWw hX.1 (w := .castable "java/lang/IllegalArgumentException" "java/lang/IllegalArgumentException") (by decide +kernel)).use rfl) hcell hv hcl ?_
  refine lv_astore (lv' := [(4, .ref q9), (0, .ref o), (1, .int (x0)), (2, .int (x1)), (3, .ref out)]) hx hb dL_billetIs_17 hl9 (by decide) rfl (fun sl9 hl9 => ?_)
  refine lv_iconst (v := 2) hx hb dL_billetIs_19 (by decide) ?_
  exact hret _ _ _ _ _ sl9 _ _ () Mz9 rfl rfl rfl (Nat.le_of_ble_eq_true rfl) (Nat.le_of_ble_eq_true rfl) dL_billetIs_20
set_option maxHeartbeats 4000000 in
set_option maxRecDepth 100000 in
theorem lk_area (l : Launch) (D : va_G) (T : Nat → ClassId) (ea mi : Nat) (sa : Nat → Nat) (o out : Nat) (f : Nat → Int64) (x0 x1 : Int32) {vs : List Value} {wt : va_W} {rm : Room} {S : Type} {w' : S → va_W} {mc ms : Nat} {rv : Int32} (hM : ZIH l yX5_area wsX5_area rm (zW ea mi sa) D T (S := S) ((o, .inr (6, vs)) :: wt) w' [.ref o, .int x0, .int x1] rv mc ms) (hrm : rm.cells = mc ∧ rm.slots = ms) (hf : ∀ (u : S) (j : Nat), j < ((o, .inr (6, vs)) :: wt).length → ((w' u).map Prod.fst)[j]? = (((o, .inr (6, vs)) :: wt).map Prod.fst)[j]?) (hlen : ∀ u : S, ((o, .inr (6, vs)) :: wt).length ≤ (w' u).length) : ZIH l yL_area wsL_area (lkR rm 4 mc ms) (zX ea mi sa) D T (S := S) (ouW out T f :: ((o, .inr (6, vs)) :: wt)) (fun u => (out, .inl (T 2, 1, .inr (.inl (vp_updL f (0 : Int32).toNatClampNeg rv.toInt64)))) :: w' u) [.ref o, .int x0, .int x1, .ref out] 0 mc ms := by
  refine z_inIHW (cc := cL_area) (maxL := 5) (hh := [(0, 10, 13, 13)]) (rt := .int) (by decide +kernel) rfl (Nat.le_of_ble_eq_true rfl) ?_
  intro p e s m args below meth c sl9 A Q Z hX htb hnm Mz9 hl9 hret
  have Z : zC p s m args c cL_area 5 RL wsL_area D T A := Z
  have hx := Z.1.1
  have hb := Z.1.2.1
  have hts := Z.1.2.2.2.2
  have hl9 : lv_has sl9 5 [(0, .ref o), (1, .int (x0)), (2, .int (x1)), (3, .ref out)] := hl9
  obtain ⟨is9, hp1, hp2, hp3⟩ := mid_put2 (ouW out T f) ((o, .inr (6, vs)) :: wt)
  refine lv_aload_n hx hb dL_area_0 rfl (lv_at hl9 3 rfl) ?_
  refine lv_iconst (v := 0) hx hb dL_area_1 (by decide) ?_
  refine lv_aload_n hx hb dL_area_2 rfl (lv_at hl9 0 rfl) ?_
  refine lv_iload_n hx hb dL_area_3 rfl (lv_at hl9 1 rfl) ?_
  refine lv_iload_n hx hb dL_area_4 rfl (lv_at hl9 2 rfl) ?_
  refine z_callViH (As := [.int (x0), .int (x1)]) (rest := [.int 0, .ref out]) (wc := ((o, .inr (6, vs)) :: wt)) (zW_k ea mi sa) hX.1 Z Mz9 hM (cwV 2 hts gL_area_X5_area rfl hrm.1 hrm.2 (by decide +kernel) ⟨Nat.le_refl _, Nat.le_refl _⟩) is9 hp1 hp2 hf hlen (va_recv Z.2.1 Mz9.1 (ci := 6) (q0 := 1) rfl rfl) rfl hl9.1 (Nat.le_of_ble_eq_true rfl) dL_area_5 ⟨Nat.le_of_eq (Nat.zero_add _), Nat.le_of_eq (Nat.zero_add _)⟩ rfl (fun u Hp9 lc9 Mz9 => ?_)
  have Mz9 : zM D A s.heap (ouW out T f :: w' u) _ _ := zM_w (hp3 _ (hlen u)) Mz9
  refine lv_i2l (v := rv.toInt64) hx hb dL_area_8 rfl ?_
  refine va_last hx hb Z.2.1 Mz9.1 Mz9.2.1 Mz9.2.2 0 2 (cA := T 2) (n := 1) (f := f) rfl rfl (i := 0) (by unfold vp_in; decide) dL_area_9 (fun Hp9 lc9 hP9 hD9 hS9 => ?_)
  have Mz9 : zM D A s.heap ((out, .inl (T 2, 1, .inr (.inl (vp_updL f (0 : Int32).toNatClampNeg rv.toInt64)))) :: w' u) _ _ := ⟨hP9, hD9, hS9⟩
  refine lv_goto (tgt := 17) hx hb dL_area_10 (by decide) ?_
  refine lv_iconst (v := 0) hx hb dL_area_17 (by decide) ?_
  exact hret _ _ _ _ _ sl9 _ _ u Mz9 (rfl) rfl rfl (Nat.le_of_eq (Nat.zero_add _)) (Nat.le_of_eq (Nat.zero_add _)) dL_area_18
set_option maxHeartbeats 4000000 in
set_option maxRecDepth 100000 in
theorem lk_area_1 (l : Launch) (D : va_G) (T : Nat → ClassId) (ea mi : Nat) (sa : Nat → Nat) (o out : Nat) (f : Nat → Int64) (x0 x1 : Int32) {vs : List Value} {wt : va_W} {rm : Room} (hM : ZB l yX5_area wsX5_area rm (zW ea mi sa) D T ((o, .inr (6, vs)) :: wt) [.ref o, .int x0, .int x1] "java/lang/IndexOutOfBoundsException") (hrm : rm.cells = 1 ∧ rm.slots = 6) : ZIH l yL_area wsL_area (lkR rm 4 1 6) (zX ea mi sa) D T (S := Unit) (ouW out T f :: ((o, .inr (6, vs)) :: wt)) (fun _ => ouW out T f :: ((o, .inr (6, vs)) :: wt)) [.ref o, .int x0, .int x1, .ref out] 1 1 6 := by
  refine z_inIHW (cc := cL_area) (maxL := 5) (hh := [(0, 10, 13, 13)]) (rt := .int) (by decide +kernel) rfl (Nat.le_of_ble_eq_true rfl) ?_
  intro p e s m args below meth c sl9 A Q Z hX htb hnm Mz9 hl9 hret
  have Z : zC p s m args c cL_area 5 RL wsL_area D T A := Z
  have hx := Z.1.1
  have hb := Z.1.2.1
  have hts := Z.1.2.2.2.2
  have hl9 : lv_has sl9 5 [(0, .ref o), (1, .int (x0)), (2, .int (x1)), (3, .ref out)] := hl9
  obtain ⟨is9, hp1, hp2, hp3⟩ := mid_put2 (ouW out T f) ((o, .inr (6, vs)) :: wt)
  refine lv_aload_n hx hb dL_area_0 rfl (lv_at hl9 3 rfl) ?_
  refine lv_iconst (v := 0) hx hb dL_area_1 (by decide) ?_
  refine lv_aload_n hx hb dL_area_2 rfl (lv_at hl9 0 rfl) ?_
  refine lv_iload_n hx hb dL_area_3 rfl (lv_at hl9 1 rfl) ?_
  refine lv_iload_n hx hb dL_area_4 rfl (lv_at hl9 2 rfl) ?_
  refine z_callVx (As := [.int (x0), .int (x1)]) (rest := [.int 0, .ref out]) (wc := ((o, .inr (6, vs)) :: wt)) (zW_k ea mi sa) hX.1 Z Mz9 hM (cwV 2 hts gL_area_X5_area rfl hrm.1 hrm.2 (by decide +kernel) ⟨Nat.le_refl _, Nat.le_refl _⟩) is9 hp1 hp2 (va_recv Z.2.1 Mz9.1 (ci := 6) (q0 := 1) rfl rfl) rfl hl9.1 (Nat.le_of_ble_eq_true rfl) dL_area_5 ⟨Nat.le_of_ble_eq_true rfl, Nat.le_of_ble_eq_true rfl⟩ rfl (fun Hp9 lc9 q9 ce Mz9 hcell hv hcl => ?_)
  refine vx_catch (name := "java/lang/IndexOutOfBoundsException") Z.1.2.2.2.1 [] (⟨0, 10, 13, 13⟩ : ExceptionTableEntry) [] htb (fun z hz => absurd hz List.not_mem_nil) (by decide) (by decide) (hts (.classLink RL 13 "java/lang/IndexOutOfBoundsException") (by decide +kernel)) ((zWw hX.1 (w := .castable "java/lang/IndexOutOfBoundsException" "java/lang/IndexOutOfBoundsException") (by decide +kernel)).use rfl) hcell hv hcl ?_
  refine lv_astore (lv' := [(4, .ref q9), (0, .ref o), (1, .int (x0)), (2, .int (x1)), (3, .ref out)]) hx hb dL_area_13 hl9 (by decide) rfl (fun sl9 hl9 => ?_)
  refine lv_iconst (v := 1) hx hb dL_area_15 (by decide) ?_
  exact hret _ _ _ _ _ sl9 _ _ () Mz9 rfl rfl rfl (Nat.le_of_ble_eq_true rfl) (Nat.le_of_ble_eq_true rfl) dL_area_16
set_option maxHeartbeats 4000000 in
set_option maxRecDepth 100000 in
theorem lk_balances (l : Launch) (D : va_G) (T : Nat → ClassId) (ea mi : Nat) (sa : Nat → Nat) (o out : Nat) (f : Nat → Int64) (x0 : Int32) {vs : List Value} {wt : va_W} {rm : Room} {S : Type} {w' : S → va_W} {mc ms : Nat} {rv : Int32} (hM : ZIH l yX5_balances wsX5_balances rm (zW ea mi sa) D T (S := S) ((o, .inr (6, vs)) :: wt) w' [.ref o, .int x0] rv mc ms) (hrm : rm.cells = mc ∧ rm.slots = ms) (hf : ∀ (u : S) (j : Nat), j < ((o, .inr (6, vs)) :: wt).length → ((w' u).map Prod.fst)[j]? = (((o, .inr (6, vs)) :: wt).map Prod.fst)[j]?) (hlen : ∀ u : S, ((o, .inr (6, vs)) :: wt).length ≤ (w' u).length) : ZIH l yL_balances wsL_balances (lkR rm 3 mc ms) (zX ea mi sa) D T (S := S) (ouW out T f :: ((o, .inr (6, vs)) :: wt)) (fun u => (out, .inl (T 2, 1, .inr (.inl (vp_updL f (0 : Int32).toNatClampNeg (if rv = 0 then 0 else 1))))) :: w' u) [.ref o, .int x0, .ref out] 0 mc ms := by
  refine z_inIHW (cc := cL_balances) (maxL := 4) (hh := [(0, 16, 19, 13)]) (rt := .int) (by decide +kernel) rfl (Nat.le_of_ble_eq_true rfl) ?_
  intro p e s m args below meth c sl9 A Q Z hX htb hnm Mz9 hl9 hret
  have Z : zC p s m args c cL_balances 4 RL wsL_balances D T A := Z
  have hx := Z.1.1
  have hb := Z.1.2.1
  have hts := Z.1.2.2.2.2
  have hl9 : lv_has sl9 4 [(0, .ref o), (1, .int (x0)), (2, .ref out)] := hl9
  obtain ⟨is9, hp1, hp2, hp3⟩ := mid_put2 (ouW out T f) ((o, .inr (6, vs)) :: wt)
  refine lv_aload_n hx hb dL_balances_0 rfl (lv_at hl9 2 rfl) ?_
  refine lv_iconst (v := 0) hx hb dL_balances_1 (by decide) ?_
  refine lv_aload_n hx hb dL_balances_2 rfl (lv_at hl9 0 rfl) ?_
  refine lv_iload_n hx hb dL_balances_3 rfl (lv_at hl9 1 rfl) ?_
  refine z_callViH (As := [.int (x0)]) (rest := [.int 0, .ref out]) (wc := ((o, .inr (6, vs)) :: wt)) (zW_k ea mi sa) hX.1 Z Mz9 hM (cwV 1 hts gL_balances_X5_balances rfl hrm.1 hrm.2 (by decide +kernel) ⟨Nat.le_refl _, Nat.le_refl _⟩) is9 hp1 hp2 hf hlen (va_recv Z.2.1 Mz9.1 (ci := 6) (q0 := 1) rfl rfl) rfl hl9.1 (Nat.le_of_ble_eq_true rfl) dL_balances_4 ⟨Nat.le_of_eq (Nat.zero_add _), Nat.le_of_eq (Nat.zero_add _)⟩ rfl (fun u Hp9 lc9 Mz9 => ?_)
  have Mz9 : zM D A s.heap (ouW out T f :: w' u) _ _ := zM_w (hp3 _ (hlen u)) Mz9
  refine lv_if_eq (tgt := 14) hx hb dL_balances_7 (by decide) (fun c1 => ?_) (fun c1 => ?_)
  ·
    refine lv_lconst (v := 0) hx hb dL_balances_14 rfl ?_
    refine va_last hx hb Z.2.1 Mz9.1 Mz9.2.1 Mz9.2.2 0 2 (cA := T 2) (n := 1) (f := f) rfl rfl (i := 0) (by unfold vp_in; decide) dL_balances_15 (fun Hp9 lc9 hP9 hD9 hS9 => ?_)
    have Mz9 : zM D A s.heap ((out, .inl (T 2, 1, .inr (.inl (vp_updL f (0 : Int32).toNatClampNeg (0))))) :: w' u) _ _ := ⟨hP9, hD9, hS9⟩
    refine lv_goto (tgt := 22) hx hb dL_balances_16 (by decide) ?_
    refine lv_iconst (v := 0) hx hb dL_balances_22 (by decide) ?_
    exact hret _ _ _ _ _ sl9 _ _ u Mz9 (by rw [if_pos c1]) rfl rfl (Nat.le_of_eq (Nat.zero_add _)) (Nat.le_of_eq (Nat.zero_add _)) dL_balances_23
  ·
    refine lv_lconst (v := 1) hx hb dL_balances_10 rfl ?_
    refine lv_goto (tgt := 15) hx hb dL_balances_11 (by decide) ?_
    refine va_last hx hb Z.2.1 Mz9.1 Mz9.2.1 Mz9.2.2 0 2 (cA := T 2) (n := 1) (f := f) rfl rfl (i := 0) (by unfold vp_in; decide) dL_balances_15 (fun Hp9 lc9 hP9 hD9 hS9 => ?_)
    have Mz9 : zM D A s.heap ((out, .inl (T 2, 1, .inr (.inl (vp_updL f (0 : Int32).toNatClampNeg (1))))) :: w' u) _ _ := ⟨hP9, hD9, hS9⟩
    refine lv_goto (tgt := 22) hx hb dL_balances_16 (by decide) ?_
    refine lv_iconst (v := 0) hx hb dL_balances_22 (by decide) ?_
    exact hret _ _ _ _ _ sl9 _ _ u Mz9 (by rw [if_neg c1]) rfl rfl (Nat.le_of_eq (Nat.zero_add _)) (Nat.le_of_eq (Nat.zero_add _)) dL_balances_23
set_option maxHeartbeats 4000000 in
set_option maxRecDepth 100000 in
theorem lk_balances_1 (l : Launch) (D : va_G) (T : Nat → ClassId) (ea mi : Nat) (sa : Nat → Nat) (o out : Nat) (f : Nat → Int64) (x0 : Int32) {vs : List Value} {wt : va_W} {rm : Room} (hM : ZB l yX5_balances wsX5_balances rm (zW ea mi sa) D T ((o, .inr (6, vs)) :: wt) [.ref o, .int x0] "java/lang/IndexOutOfBoundsException") (hrm : rm.cells = 1 ∧ rm.slots = 6) : ZIH l yL_balances wsL_balances (lkR rm 3 1 6) (zX ea mi sa) D T (S := Unit) (ouW out T f :: ((o, .inr (6, vs)) :: wt)) (fun _ => ouW out T f :: ((o, .inr (6, vs)) :: wt)) [.ref o, .int x0, .ref out] 1 1 6 := by
  refine z_inIHW (cc := cL_balances) (maxL := 4) (hh := [(0, 16, 19, 13)]) (rt := .int) (by decide +kernel) rfl (Nat.le_of_ble_eq_true rfl) ?_
  intro p e s m args below meth c sl9 A Q Z hX htb hnm Mz9 hl9 hret
  have Z : zC p s m args c cL_balances 4 RL wsL_balances D T A := Z
  have hx := Z.1.1
  have hb := Z.1.2.1
  have hts := Z.1.2.2.2.2
  have hl9 : lv_has sl9 4 [(0, .ref o), (1, .int (x0)), (2, .ref out)] := hl9
  obtain ⟨is9, hp1, hp2, hp3⟩ := mid_put2 (ouW out T f) ((o, .inr (6, vs)) :: wt)
  refine lv_aload_n hx hb dL_balances_0 rfl (lv_at hl9 2 rfl) ?_
  refine lv_iconst (v := 0) hx hb dL_balances_1 (by decide) ?_
  refine lv_aload_n hx hb dL_balances_2 rfl (lv_at hl9 0 rfl) ?_
  refine lv_iload_n hx hb dL_balances_3 rfl (lv_at hl9 1 rfl) ?_
  refine z_callVx (As := [.int (x0)]) (rest := [.int 0, .ref out]) (wc := ((o, .inr (6, vs)) :: wt)) (zW_k ea mi sa) hX.1 Z Mz9 hM (cwV 1 hts gL_balances_X5_balances rfl hrm.1 hrm.2 (by decide +kernel) ⟨Nat.le_refl _, Nat.le_refl _⟩) is9 hp1 hp2 (va_recv Z.2.1 Mz9.1 (ci := 6) (q0 := 1) rfl rfl) rfl hl9.1 (Nat.le_of_ble_eq_true rfl) dL_balances_4 ⟨Nat.le_of_ble_eq_true rfl, Nat.le_of_ble_eq_true rfl⟩ rfl (fun Hp9 lc9 q9 ce Mz9 hcell hv hcl => ?_)
  refine vx_catch (name := "java/lang/IndexOutOfBoundsException") Z.1.2.2.2.1 [] (⟨0, 16, 19, 13⟩ : ExceptionTableEntry) [] htb (fun z hz => absurd hz List.not_mem_nil) (by decide) (by decide) (hts (.classLink RL 13 "java/lang/IndexOutOfBoundsException") (by decide +kernel)) ((zWw hX.1 (w := .castable "java/lang/IndexOutOfBoundsException" "java/lang/IndexOutOfBoundsException") (by decide +kernel)).use rfl) hcell hv hcl ?_
  refine lv_astore_n (lv' := [(3, .ref q9), (0, .ref o), (1, .int (x0)), (2, .ref out)]) hx hb dL_balances_19 rfl hl9 (by decide) rfl (fun sl9 hl9 => ?_)
  refine lv_iconst (v := 1) hx hb dL_balances_20 (by decide) ?_
  exact hret _ _ _ _ _ sl9 _ _ () Mz9 rfl rfl rfl (Nat.le_of_ble_eq_true rfl) (Nat.le_of_ble_eq_true rfl) dL_balances_21
set_option maxHeartbeats 4000000 in
set_option maxRecDepth 100000 in
theorem lk_heat (l : Launch) (D : va_G) (T : Nat → ClassId) (ea mi : Nat) (sa : Nat → Nat) (o out : Nat) (f : Nat → Int64) (x0 x1 x2 : Int32) {vs : List Value} {wt : va_W} {rm : Room} {S : Type} {w' : S → va_W} {mc ms : Nat} {rv : Int32} (hM : ZIH l yX5_heat wsX5_heat rm (zW ea mi sa) D T (S := S) ((o, .inr (6, vs)) :: wt) w' [.ref o, .int x0, .int x1, .int x2] rv mc ms) (hrm : rm.cells = mc ∧ rm.slots = ms) (hf : ∀ (u : S) (j : Nat), j < ((o, .inr (6, vs)) :: wt).length → ((w' u).map Prod.fst)[j]? = (((o, .inr (6, vs)) :: wt).map Prod.fst)[j]?) (hlen : ∀ u : S, ((o, .inr (6, vs)) :: wt).length ≤ (w' u).length) : ZIH l yL_heat wsL_heat (lkR rm 5 mc ms) (zX ea mi sa) D T (S := S) (ouW out T f :: ((o, .inr (6, vs)) :: wt)) (fun u => (out, .inl (T 2, 1, .inr (.inl (vp_updL f (0 : Int32).toNatClampNeg rv.toInt64)))) :: w' u) [.ref o, .int x0, .int x1, .int x2, .ref out] 0 mc ms := by
  refine z_inIHW (cc := cL_heat) (maxL := 6) (hh := [(0, 12, 15, 13), (0, 12, 19, 15), (0, 12, 23, 21)]) (rt := .int) (by decide +kernel) rfl (Nat.le_of_ble_eq_true rfl) ?_
  intro p e s m args below meth c sl9 A Q Z hX htb hnm Mz9 hl9 hret
  have Z : zC p s m args c cL_heat 6 RL wsL_heat D T A := Z
  have hx := Z.1.1
  have hb := Z.1.2.1
  have hts := Z.1.2.2.2.2
  have hl9 : lv_has sl9 6 [(0, .ref o), (1, .int (x0)), (2, .int (x1)), (3, .int (x2)), (4, .ref out)] := hl9
  obtain ⟨is9, hp1, hp2, hp3⟩ := mid_put2 (ouW out T f) ((o, .inr (6, vs)) :: wt)
  refine lv_aload hx hb dL_heat_0 (lv_at hl9 4 rfl) ?_
  refine lv_iconst (v := 0) hx hb dL_heat_2 (by decide) ?_
  refine lv_aload_n hx hb dL_heat_3 rfl (lv_at hl9 0 rfl) ?_
  refine lv_iload_n hx hb dL_heat_4 rfl (lv_at hl9 1 rfl) ?_
  refine lv_iload_n hx hb dL_heat_5 rfl (lv_at hl9 2 rfl) ?_
  refine lv_iload_n hx hb dL_heat_6 rfl (lv_at hl9 3 rfl) ?_
  refine z_callViH (As := [.int (x0), .int (x1), .int (x2)]) (rest := [.int 0, .ref out]) (wc := ((o, .inr (6, vs)) :: wt)) (zW_k ea mi sa) hX.1 Z Mz9 hM (cwV 3 hts gL_heat_X5_heat rfl hrm.1 hrm.2 (by decide +kernel) ⟨Nat.le_refl _, Nat.le_refl _⟩) is9 hp1 hp2 hf hlen (va_recv Z.2.1 Mz9.1 (ci := 6) (q0 := 1) rfl rfl) rfl hl9.1 (Nat.le_of_ble_eq_true rfl) dL_heat_7 ⟨Nat.le_of_eq (Nat.zero_add _), Nat.le_of_eq (Nat.zero_add _)⟩ rfl (fun u Hp9 lc9 Mz9 => ?_)
  have Mz9 : zM D A s.heap (ouW out T f :: w' u) _ _ := zM_w (hp3 _ (hlen u)) Mz9
  refine lv_i2l (v := rv.toInt64) hx hb dL_heat_10 rfl ?_
  refine va_last hx hb Z.2.1 Mz9.1 Mz9.2.1 Mz9.2.2 0 2 (cA := T 2) (n := 1) (f := f) rfl rfl (i := 0) (by unfold vp_in; decide) dL_heat_11 (fun Hp9 lc9 hP9 hD9 hS9 => ?_)
  have Mz9 : zM D A s.heap ((out, .inl (T 2, 1, .inr (.inl (vp_updL f (0 : Int32).toNatClampNeg rv.toInt64)))) :: w' u) _ _ := ⟨hP9, hD9, hS9⟩
  refine lv_goto (tgt := 27) hx hb dL_heat_12 (by decide) ?_
  refine lv_iconst (v := 0) hx hb dL_heat_27 (by decide) ?_
  exact hret _ _ _ _ _ sl9 _ _ u Mz9 (rfl) rfl rfl (Nat.le_of_eq (Nat.zero_add _)) (Nat.le_of_eq (Nat.zero_add _)) dL_heat_28
set_option maxHeartbeats 4000000 in
set_option maxRecDepth 100000 in
theorem lk_heat_1 (l : Launch) (D : va_G) (T : Nat → ClassId) (ea mi : Nat) (sa : Nat → Nat) (o out : Nat) (f : Nat → Int64) (x0 x1 x2 : Int32) {vs : List Value} {wt : va_W} {rm : Room} (hM : ZB l yX5_heat wsX5_heat rm (zW ea mi sa) D T ((o, .inr (6, vs)) :: wt) [.ref o, .int x0, .int x1, .int x2] "java/lang/IndexOutOfBoundsException") (hrm : rm.cells = 1 ∧ rm.slots = 6) : ZIH l yL_heat wsL_heat (lkR rm 5 1 6) (zX ea mi sa) D T (S := Unit) (ouW out T f :: ((o, .inr (6, vs)) :: wt)) (fun _ => ouW out T f :: ((o, .inr (6, vs)) :: wt)) [.ref o, .int x0, .int x1, .int x2, .ref out] 1 1 6 := by
  refine z_inIHW (cc := cL_heat) (maxL := 6) (hh := [(0, 12, 15, 13), (0, 12, 19, 15), (0, 12, 23, 21)]) (rt := .int) (by decide +kernel) rfl (Nat.le_of_ble_eq_true rfl) ?_
  intro p e s m args below meth c sl9 A Q Z hX htb hnm Mz9 hl9 hret
  have Z : zC p s m args c cL_heat 6 RL wsL_heat D T A := Z
  have hx := Z.1.1
  have hb := Z.1.2.1
  have hts := Z.1.2.2.2.2
  have hl9 : lv_has sl9 6 [(0, .ref o), (1, .int (x0)), (2, .int (x1)), (3, .int (x2)), (4, .ref out)] := hl9
  obtain ⟨is9, hp1, hp2, hp3⟩ := mid_put2 (ouW out T f) ((o, .inr (6, vs)) :: wt)
  refine lv_aload hx hb dL_heat_0 (lv_at hl9 4 rfl) ?_
  refine lv_iconst (v := 0) hx hb dL_heat_2 (by decide) ?_
  refine lv_aload_n hx hb dL_heat_3 rfl (lv_at hl9 0 rfl) ?_
  refine lv_iload_n hx hb dL_heat_4 rfl (lv_at hl9 1 rfl) ?_
  refine lv_iload_n hx hb dL_heat_5 rfl (lv_at hl9 2 rfl) ?_
  refine lv_iload_n hx hb dL_heat_6 rfl (lv_at hl9 3 rfl) ?_
  refine z_callVx (As := [.int (x0), .int (x1), .int (x2)]) (rest := [.int 0, .ref out]) (wc := ((o, .inr (6, vs)) :: wt)) (zW_k ea mi sa) hX.1 Z Mz9 hM (cwV 3 hts gL_heat_X5_heat rfl hrm.1 hrm.2 (by decide +kernel) ⟨Nat.le_refl _, Nat.le_refl _⟩) is9 hp1 hp2 (va_recv Z.2.1 Mz9.1 (ci := 6) (q0 := 1) rfl rfl) rfl hl9.1 (Nat.le_of_ble_eq_true rfl) dL_heat_7 ⟨Nat.le_of_ble_eq_true rfl, Nat.le_of_ble_eq_true rfl⟩ rfl (fun Hp9 lc9 q9 ce Mz9 hcell hv hcl => ?_)
  refine vx_catch (name := "java/lang/IndexOutOfBoundsException") Z.1.2.2.2.1 [] (⟨0, 12, 15, 13⟩ : ExceptionTableEntry) [(⟨0, 12, 19, 15⟩ : ExceptionTableEntry), (⟨0, 12, 23, 21⟩ : ExceptionTableEntry)] htb (fun z hz => absurd hz List.not_mem_nil) (by decide) (by decide) (hts (.classLink RL 13 "java/lang/IndexOutOfBoundsException") (by decide +kernel)) ((zWw hX.1 (w := .castable "java/lang/IndexOutOfBoundsException" "java/lang/IndexOutOfBoundsException") (by decide +kernel)).use rfl) hcell hv hcl ?_
  refine lv_astore (lv' := [(5, .ref q9), (0, .ref o), (1, .int (x0)), (2, .int (x1)), (3, .int (x2)), (4, .ref out)]) hx hb dL_heat_15 hl9 (by decide) rfl (fun sl9 hl9 => ?_)
  refine lv_iconst (v := 1) hx hb dL_heat_17 (by decide) ?_
  exact hret _ _ _ _ _ sl9 _ _ () Mz9 rfl rfl rfl (Nat.le_of_ble_eq_true rfl) (Nat.le_of_ble_eq_true rfl) dL_heat_18
set_option maxHeartbeats 4000000 in
set_option maxRecDepth 100000 in
theorem lk_heat_2 (l : Launch) (D : va_G) (T : Nat → ClassId) (ea mi : Nat) (sa : Nat → Nat) (o out : Nat) (f : Nat → Int64) (x0 x1 x2 : Int32) {vs : List Value} {wt : va_W} {rm : Room} (hM : ZB l yX5_heat wsX5_heat rm (zW ea mi sa) D T ((o, .inr (6, vs)) :: wt) [.ref o, .int x0, .int x1, .int x2] "java/lang/IllegalArgumentException") (hrm : rm.cells = 1 ∧ rm.slots = 6) : ZIH l yL_heat wsL_heat (lkR rm 5 1 6) (zX ea mi sa) D T (S := Unit) (ouW out T f :: ((o, .inr (6, vs)) :: wt)) (fun _ => ouW out T f :: ((o, .inr (6, vs)) :: wt)) [.ref o, .int x0, .int x1, .int x2, .ref out] 2 1 6 := by
  refine z_inIHW (cc := cL_heat) (maxL := 6) (hh := [(0, 12, 15, 13), (0, 12, 19, 15), (0, 12, 23, 21)]) (rt := .int) (by decide +kernel) rfl (Nat.le_of_ble_eq_true rfl) ?_
  intro p e s m args below meth c sl9 A Q Z hX htb hnm Mz9 hl9 hret
  have Z : zC p s m args c cL_heat 6 RL wsL_heat D T A := Z
  have hx := Z.1.1
  have hb := Z.1.2.1
  have hts := Z.1.2.2.2.2
  have hl9 : lv_has sl9 6 [(0, .ref o), (1, .int (x0)), (2, .int (x1)), (3, .int (x2)), (4, .ref out)] := hl9
  obtain ⟨is9, hp1, hp2, hp3⟩ := mid_put2 (ouW out T f) ((o, .inr (6, vs)) :: wt)
  refine lv_aload hx hb dL_heat_0 (lv_at hl9 4 rfl) ?_
  refine lv_iconst (v := 0) hx hb dL_heat_2 (by decide) ?_
  refine lv_aload_n hx hb dL_heat_3 rfl (lv_at hl9 0 rfl) ?_
  refine lv_iload_n hx hb dL_heat_4 rfl (lv_at hl9 1 rfl) ?_
  refine lv_iload_n hx hb dL_heat_5 rfl (lv_at hl9 2 rfl) ?_
  refine lv_iload_n hx hb dL_heat_6 rfl (lv_at hl9 3 rfl) ?_
  refine z_callVx (As := [.int (x0), .int (x1), .int (x2)]) (rest := [.int 0, .ref out]) (wc := ((o, .inr (6, vs)) :: wt)) (zW_k ea mi sa) hX.1 Z Mz9 hM (cwV 3 hts gL_heat_X5_heat rfl hrm.1 hrm.2 (by decide +kernel) ⟨Nat.le_refl _, Nat.le_refl _⟩) is9 hp1 hp2 (va_recv Z.2.1 Mz9.1 (ci := 6) (q0 := 1) rfl rfl) rfl hl9.1 (Nat.le_of_ble_eq_true rfl) dL_heat_7 ⟨Nat.le_of_ble_eq_true rfl, Nat.le_of_ble_eq_true rfl⟩ rfl (fun Hp9 lc9 q9 ce Mz9 hcell hv hcl => ?_)
  refine vx_catch (name := "java/lang/IllegalArgumentException") Z.1.2.2.2.1 [(⟨0, 12, 15, 13⟩ : ExceptionTableEntry)] (⟨0, 12, 19, 15⟩ : ExceptionTableEntry) [(⟨0, 12, 23, 21⟩ : ExceptionTableEntry)] htb (List.forall_mem_cons.mpr ⟨Or.inr ⟨by decide, "java/lang/IndexOutOfBoundsException", hts (.classLink RL 13 "java/lang/IndexOutOfBoundsException") (by decide +kernel), hX.2.1⟩, fun _ hz => absurd hz List.not_mem_nil⟩) (by decide) (by decide) (hts (.classLink RL 15 "java/lang/IllegalArgumentException") (by decide +kernel)) ((zWw hX.1 (w := .castable "java/lang/IllegalArgumentException" "java/lang/IllegalArgumentException") (by decide +kernel)).use rfl) hcell hv hcl ?_
  refine lv_astore (lv' := [(5, .ref q9), (0, .ref o), (1, .int (x0)), (2, .int (x1)), (3, .int (x2)), (4, .ref out)]) hx hb dL_heat_19 hl9 (by decide) rfl (fun sl9 hl9 => ?_)
  refine lv_iconst (v := 2) hx hb dL_heat_21 (by decide) ?_
  exact hret _ _ _ _ _ sl9 _ _ () Mz9 rfl rfl rfl (Nat.le_of_ble_eq_true rfl) (Nat.le_of_ble_eq_true rfl) dL_heat_22
set_option maxHeartbeats 4000000 in
set_option maxRecDepth 100000 in
theorem lk_heat_3 (l : Launch) (D : va_G) (T : Nat → ClassId) (ea mi : Nat) (sa : Nat → Nat) (o out : Nat) (f : Nat → Int64) (x0 x1 x2 : Int32) {vs : List Value} {wt : va_W} {rm : Room} (hM : ZB l yX5_heat wsX5_heat rm (zW ea mi sa) D T ((o, .inr (6, vs)) :: wt) [.ref o, .int x0, .int x1, .int x2] "java/lang/IllegalStateException") (hrm : rm.cells = 1 ∧ rm.slots = 6) : ZIH l yL_heat wsL_heat (lkR rm 5 1 6) (zX ea mi sa) D T (S := Unit) (ouW out T f :: ((o, .inr (6, vs)) :: wt)) (fun _ => ouW out T f :: ((o, .inr (6, vs)) :: wt)) [.ref o, .int x0, .int x1, .int x2, .ref out] 3 1 6 := by
  refine z_inIHW (cc := cL_heat) (maxL := 6) (hh := [(0, 12, 15, 13), (0, 12, 19, 15), (0, 12, 23, 21)]) (rt := .int) (by decide +kernel) rfl (Nat.le_of_ble_eq_true rfl) ?_
  intro p e s m args below meth c sl9 A Q Z hX htb hnm Mz9 hl9 hret
  have Z : zC p s m args c cL_heat 6 RL wsL_heat D T A := Z
  have hx := Z.1.1
  have hb := Z.1.2.1
  have hts := Z.1.2.2.2.2
  have hl9 : lv_has sl9 6 [(0, .ref o), (1, .int (x0)), (2, .int (x1)), (3, .int (x2)), (4, .ref out)] := hl9
  obtain ⟨is9, hp1, hp2, hp3⟩ := mid_put2 (ouW out T f) ((o, .inr (6, vs)) :: wt)
  refine lv_aload hx hb dL_heat_0 (lv_at hl9 4 rfl) ?_
  refine lv_iconst (v := 0) hx hb dL_heat_2 (by decide) ?_
  refine lv_aload_n hx hb dL_heat_3 rfl (lv_at hl9 0 rfl) ?_
  refine lv_iload_n hx hb dL_heat_4 rfl (lv_at hl9 1 rfl) ?_
  refine lv_iload_n hx hb dL_heat_5 rfl (lv_at hl9 2 rfl) ?_
  refine lv_iload_n hx hb dL_heat_6 rfl (lv_at hl9 3 rfl) ?_
  refine z_callVx (As := [.int (x0), .int (x1), .int (x2)]) (rest := [.int 0, .ref out]) (wc := ((o, .inr (6, vs)) :: wt)) (zW_k ea mi sa) hX.1 Z Mz9 hM (cwV 3 hts gL_heat_X5_heat rfl hrm.1 hrm.2 (by decide +kernel) ⟨Nat.le_refl _, Nat.le_refl _⟩) is9 hp1 hp2 (va_recv Z.2.1 Mz9.1 (ci := 6) (q0 := 1) rfl rfl) rfl hl9.1 (Nat.le_of_ble_eq_true rfl) dL_heat_7 ⟨Nat.le_of_ble_eq_true rfl, Nat.le_of_ble_eq_true rfl⟩ rfl (fun Hp9 lc9 q9 ce Mz9 hcell hv hcl => ?_)
  refine vx_catch (name := "java/lang/IllegalStateException") Z.1.2.2.2.1 [(⟨0, 12, 15, 13⟩ : ExceptionTableEntry), (⟨0, 12, 19, 15⟩ : ExceptionTableEntry)] (⟨0, 12, 23, 21⟩ : ExceptionTableEntry) [] htb (List.forall_mem_cons.mpr ⟨Or.inr ⟨by decide, "java/lang/IndexOutOfBoundsException", hts (.classLink RL 13 "java/lang/IndexOutOfBoundsException") (by decide +kernel), hX.2.2.1⟩, List.forall_mem_cons.mpr ⟨Or.inr ⟨by decide, "java/lang/IllegalArgumentException", hts (.classLink RL 15 "java/lang/IllegalArgumentException") (by decide +kernel), hX.2.2.2⟩, fun _ hz => absurd hz List.not_mem_nil⟩⟩) (by decide) (by decide) (hts (.classLink RL 21 "java/lang/IllegalStateException") (by decide +kernel)) ((zWw hX.1 (w := .castable "java/lang/IllegalStateException" "java/lang/IllegalStateException") (by decide +kernel)).use rfl) hcell hv hcl ?_
  refine lv_astore (lv' := [(5, .ref q9), (0, .ref o), (1, .int (x0)), (2, .int (x1)), (3, .int (x2)), (4, .ref out)]) hx hb dL_heat_23 hl9 (by decide) rfl (fun sl9 hl9 => ?_)
  refine lv_iconst (v := 3) hx hb dL_heat_25 (by decide) ?_
  exact hret _ _ _ _ _ sl9 _ _ () Mz9 rfl rfl rfl (Nat.le_of_ble_eq_true rfl) (Nat.le_of_ble_eq_true rfl) dL_heat_26
set_option maxHeartbeats 4000000 in
set_option maxRecDepth 100000 in
theorem lk_cool (l : Launch) (D : va_G) (T : Nat → ClassId) (ea mi : Nat) (sa : Nat → Nat) (o out : Nat) (f : Nat → Int64) (x0 x1 : Int32) {vs : List Value} {wt : va_W} {rm : Room} {S : Type} {w' : S → va_W} {mc ms : Nat} {rv : Int32} (hM : ZIH l yX5_cool wsX5_cool rm (zW ea mi sa) D T (S := S) ((o, .inr (6, vs)) :: wt) w' [.ref o, .int x0, .int x1] rv mc ms) (hrm : rm.cells = mc ∧ rm.slots = ms) (hf : ∀ (u : S) (j : Nat), j < ((o, .inr (6, vs)) :: wt).length → ((w' u).map Prod.fst)[j]? = (((o, .inr (6, vs)) :: wt).map Prod.fst)[j]?) (hlen : ∀ u : S, ((o, .inr (6, vs)) :: wt).length ≤ (w' u).length) : ZIH l yL_cool wsL_cool (lkR rm 5 mc ms) (zX ea mi sa) D T (S := S) (ouW out T f :: ((o, .inr (6, vs)) :: wt)) (fun u => (out, .inl (T 2, 1, .inr (.inl (vp_updL f (0 : Int32).toNatClampNeg rv.toInt64)))) :: w' u) [.ref o, .int x0, .int x1, .ref out] 0 mc ms := by
  refine z_inIHW (cc := cL_cool) (maxL := 5) (hh := [(0, 10, 13, 13), (0, 10, 17, 15)]) (rt := .int) (by decide +kernel) rfl (Nat.le_of_ble_eq_true rfl) ?_
  intro p e s m args below meth c sl9 A Q Z hX htb hnm Mz9 hl9 hret
  have Z : zC p s m args c cL_cool 5 RL wsL_cool D T A := Z
  have hx := Z.1.1
  have hb := Z.1.2.1
  have hts := Z.1.2.2.2.2
  have hl9 : lv_has sl9 5 [(0, .ref o), (1, .int (x0)), (2, .int (x1)), (3, .ref out)] := hl9
  obtain ⟨is9, hp1, hp2, hp3⟩ := mid_put2 (ouW out T f) ((o, .inr (6, vs)) :: wt)
  refine lv_aload_n hx hb dL_cool_0 rfl (lv_at hl9 3 rfl) ?_
  refine lv_iconst (v := 0) hx hb dL_cool_1 (by decide) ?_
  refine lv_aload_n hx hb dL_cool_2 rfl (lv_at hl9 0 rfl) ?_
  refine lv_iload_n hx hb dL_cool_3 rfl (lv_at hl9 1 rfl) ?_
  refine lv_iload_n hx hb dL_cool_4 rfl (lv_at hl9 2 rfl) ?_
  refine z_callViH (As := [.int (x0), .int (x1)]) (rest := [.int 0, .ref out]) (wc := ((o, .inr (6, vs)) :: wt)) (zW_k ea mi sa) hX.1 Z Mz9 hM (cwV 2 hts gL_cool_X5_cool rfl hrm.1 hrm.2 (by decide +kernel) ⟨Nat.le_refl _, Nat.le_refl _⟩) is9 hp1 hp2 hf hlen (va_recv Z.2.1 Mz9.1 (ci := 6) (q0 := 1) rfl rfl) rfl hl9.1 (Nat.le_of_ble_eq_true rfl) dL_cool_5 ⟨Nat.le_of_eq (Nat.zero_add _), Nat.le_of_eq (Nat.zero_add _)⟩ rfl (fun u Hp9 lc9 Mz9 => ?_)
  have Mz9 : zM D A s.heap (ouW out T f :: w' u) _ _ := zM_w (hp3 _ (hlen u)) Mz9
  refine lv_i2l (v := rv.toInt64) hx hb dL_cool_8 rfl ?_
  refine va_last hx hb Z.2.1 Mz9.1 Mz9.2.1 Mz9.2.2 0 2 (cA := T 2) (n := 1) (f := f) rfl rfl (i := 0) (by unfold vp_in; decide) dL_cool_9 (fun Hp9 lc9 hP9 hD9 hS9 => ?_)
  have Mz9 : zM D A s.heap ((out, .inl (T 2, 1, .inr (.inl (vp_updL f (0 : Int32).toNatClampNeg rv.toInt64)))) :: w' u) _ _ := ⟨hP9, hD9, hS9⟩
  refine lv_goto (tgt := 21) hx hb dL_cool_10 (by decide) ?_
  refine lv_iconst (v := 0) hx hb dL_cool_21 (by decide) ?_
  exact hret _ _ _ _ _ sl9 _ _ u Mz9 (rfl) rfl rfl (Nat.le_of_eq (Nat.zero_add _)) (Nat.le_of_eq (Nat.zero_add _)) dL_cool_22
set_option maxHeartbeats 4000000 in
set_option maxRecDepth 100000 in
theorem lk_cool_1 (l : Launch) (D : va_G) (T : Nat → ClassId) (ea mi : Nat) (sa : Nat → Nat) (o out : Nat) (f : Nat → Int64) (x0 x1 : Int32) {vs : List Value} {wt : va_W} {rm : Room} (hM : ZB l yX5_cool wsX5_cool rm (zW ea mi sa) D T ((o, .inr (6, vs)) :: wt) [.ref o, .int x0, .int x1] "java/lang/IndexOutOfBoundsException") (hrm : rm.cells = 1 ∧ rm.slots = 6) : ZIH l yL_cool wsL_cool (lkR rm 5 1 6) (zX ea mi sa) D T (S := Unit) (ouW out T f :: ((o, .inr (6, vs)) :: wt)) (fun _ => ouW out T f :: ((o, .inr (6, vs)) :: wt)) [.ref o, .int x0, .int x1, .ref out] 1 1 6 := by
  refine z_inIHW (cc := cL_cool) (maxL := 5) (hh := [(0, 10, 13, 13), (0, 10, 17, 15)]) (rt := .int) (by decide +kernel) rfl (Nat.le_of_ble_eq_true rfl) ?_
  intro p e s m args below meth c sl9 A Q Z hX htb hnm Mz9 hl9 hret
  have Z : zC p s m args c cL_cool 5 RL wsL_cool D T A := Z
  have hx := Z.1.1
  have hb := Z.1.2.1
  have hts := Z.1.2.2.2.2
  have hl9 : lv_has sl9 5 [(0, .ref o), (1, .int (x0)), (2, .int (x1)), (3, .ref out)] := hl9
  obtain ⟨is9, hp1, hp2, hp3⟩ := mid_put2 (ouW out T f) ((o, .inr (6, vs)) :: wt)
  refine lv_aload_n hx hb dL_cool_0 rfl (lv_at hl9 3 rfl) ?_
  refine lv_iconst (v := 0) hx hb dL_cool_1 (by decide) ?_
  refine lv_aload_n hx hb dL_cool_2 rfl (lv_at hl9 0 rfl) ?_
  refine lv_iload_n hx hb dL_cool_3 rfl (lv_at hl9 1 rfl) ?_
  refine lv_iload_n hx hb dL_cool_4 rfl (lv_at hl9 2 rfl) ?_
  refine z_callVx (As := [.int (x0), .int (x1)]) (rest := [.int 0, .ref out]) (wc := ((o, .inr (6, vs)) :: wt)) (zW_k ea mi sa) hX.1 Z Mz9 hM (cwV 2 hts gL_cool_X5_cool rfl hrm.1 hrm.2 (by decide +kernel) ⟨Nat.le_refl _, Nat.le_refl _⟩) is9 hp1 hp2 (va_recv Z.2.1 Mz9.1 (ci := 6) (q0 := 1) rfl rfl) rfl hl9.1 (Nat.le_of_ble_eq_true rfl) dL_cool_5 ⟨Nat.le_of_ble_eq_true rfl, Nat.le_of_ble_eq_true rfl⟩ rfl (fun Hp9 lc9 q9 ce Mz9 hcell hv hcl => ?_)
  refine vx_catch (name := "java/lang/IndexOutOfBoundsException") Z.1.2.2.2.1 [] (⟨0, 10, 13, 13⟩ : ExceptionTableEntry) [(⟨0, 10, 17, 15⟩ : ExceptionTableEntry)] htb (fun z hz => absurd hz List.not_mem_nil) (by decide) (by decide) (hts (.classLink RL 13 "java/lang/IndexOutOfBoundsException") (by decide +kernel)) ((zWw hX.1 (w := .castable "java/lang/IndexOutOfBoundsException" "java/lang/IndexOutOfBoundsException") (by decide +kernel)).use rfl) hcell hv hcl ?_
  refine lv_astore (lv' := [(4, .ref q9), (0, .ref o), (1, .int (x0)), (2, .int (x1)), (3, .ref out)]) hx hb dL_cool_13 hl9 (by decide) rfl (fun sl9 hl9 => ?_)
  refine lv_iconst (v := 1) hx hb dL_cool_15 (by decide) ?_
  exact hret _ _ _ _ _ sl9 _ _ () Mz9 rfl rfl rfl (Nat.le_of_ble_eq_true rfl) (Nat.le_of_ble_eq_true rfl) dL_cool_16
set_option maxHeartbeats 4000000 in
set_option maxRecDepth 100000 in
theorem lk_cool_2 (l : Launch) (D : va_G) (T : Nat → ClassId) (ea mi : Nat) (sa : Nat → Nat) (o out : Nat) (f : Nat → Int64) (x0 x1 : Int32) {vs : List Value} {wt : va_W} {rm : Room} (hM : ZB l yX5_cool wsX5_cool rm (zW ea mi sa) D T ((o, .inr (6, vs)) :: wt) [.ref o, .int x0, .int x1] "java/lang/IllegalArgumentException") (hrm : rm.cells = 1 ∧ rm.slots = 6) : ZIH l yL_cool wsL_cool (lkR rm 5 1 6) (zX ea mi sa) D T (S := Unit) (ouW out T f :: ((o, .inr (6, vs)) :: wt)) (fun _ => ouW out T f :: ((o, .inr (6, vs)) :: wt)) [.ref o, .int x0, .int x1, .ref out] 2 1 6 := by
  refine z_inIHW (cc := cL_cool) (maxL := 5) (hh := [(0, 10, 13, 13), (0, 10, 17, 15)]) (rt := .int) (by decide +kernel) rfl (Nat.le_of_ble_eq_true rfl) ?_
  intro p e s m args below meth c sl9 A Q Z hX htb hnm Mz9 hl9 hret
  have Z : zC p s m args c cL_cool 5 RL wsL_cool D T A := Z
  have hx := Z.1.1
  have hb := Z.1.2.1
  have hts := Z.1.2.2.2.2
  have hl9 : lv_has sl9 5 [(0, .ref o), (1, .int (x0)), (2, .int (x1)), (3, .ref out)] := hl9
  obtain ⟨is9, hp1, hp2, hp3⟩ := mid_put2 (ouW out T f) ((o, .inr (6, vs)) :: wt)
  refine lv_aload_n hx hb dL_cool_0 rfl (lv_at hl9 3 rfl) ?_
  refine lv_iconst (v := 0) hx hb dL_cool_1 (by decide) ?_
  refine lv_aload_n hx hb dL_cool_2 rfl (lv_at hl9 0 rfl) ?_
  refine lv_iload_n hx hb dL_cool_3 rfl (lv_at hl9 1 rfl) ?_
  refine lv_iload_n hx hb dL_cool_4 rfl (lv_at hl9 2 rfl) ?_
  refine z_callVx (As := [.int (x0), .int (x1)]) (rest := [.int 0, .ref out]) (wc := ((o, .inr (6, vs)) :: wt)) (zW_k ea mi sa) hX.1 Z Mz9 hM (cwV 2 hts gL_cool_X5_cool rfl hrm.1 hrm.2 (by decide +kernel) ⟨Nat.le_refl _, Nat.le_refl _⟩) is9 hp1 hp2 (va_recv Z.2.1 Mz9.1 (ci := 6) (q0 := 1) rfl rfl) rfl hl9.1 (Nat.le_of_ble_eq_true rfl) dL_cool_5 ⟨Nat.le_of_ble_eq_true rfl, Nat.le_of_ble_eq_true rfl⟩ rfl (fun Hp9 lc9 q9 ce Mz9 hcell hv hcl => ?_)
  refine vx_catch (name := "java/lang/IllegalArgumentException") Z.1.2.2.2.1 [(⟨0, 10, 13, 13⟩ : ExceptionTableEntry)] (⟨0, 10, 17, 15⟩ : ExceptionTableEntry) [] htb (List.forall_mem_cons.mpr ⟨Or.inr ⟨by decide, "java/lang/IndexOutOfBoundsException", hts (.classLink RL 13 "java/lang/IndexOutOfBoundsException") (by decide +kernel), hX.2.1⟩, fun _ hz => absurd hz List.not_mem_nil⟩) (by decide) (by decide) (hts (.classLink RL 15 "java/lang/IllegalArgumentException") (by decide +kernel)) ((zWw hX.1 (w := .castable "java/lang/IllegalArgumentException" "java/lang/IllegalArgumentException") (by decide +kernel)).use rfl) hcell hv hcl ?_
  refine lv_astore (lv' := [(4, .ref q9), (0, .ref o), (1, .int (x0)), (2, .int (x1)), (3, .ref out)]) hx hb dL_cool_17 hl9 (by decide) rfl (fun sl9 hl9 => ?_)
  refine lv_iconst (v := 2) hx hb dL_cool_19 (by decide) ?_
  exact hret _ _ _ _ _ sl9 _ _ () Mz9 rfl rfl rfl (Nat.le_of_ble_eq_true rfl) (Nat.le_of_ble_eq_true rfl) dL_cool_20
set_option maxHeartbeats 4000000 in
set_option maxRecDepth 100000 in
theorem lk_blow (l : Launch) (D : va_G) (T : Nat → ClassId) (ea mi : Nat) (sa : Nat → Nat) (o out : Nat) (f : Nat → Int64) (x0 x1 x2 x3 : Int32) {vs : List Value} {wt : va_W} {rm : Room} {S : Type} {w' : S → va_W} {mc ms : Nat} {rv : Int32} (hM : ZIH l yX5_blow wsX5_blow rm (zW ea mi sa) D T (S := S) ((o, .inr (6, vs)) :: wt) w' [.ref o, .int x0, .int x1, .int x2, .int x3] rv mc ms) (hrm : rm.cells = mc ∧ rm.slots = ms) (hf : ∀ (u : S) (j : Nat), j < ((o, .inr (6, vs)) :: wt).length → ((w' u).map Prod.fst)[j]? = (((o, .inr (6, vs)) :: wt).map Prod.fst)[j]?) (hlen : ∀ u : S, ((o, .inr (6, vs)) :: wt).length ≤ (w' u).length) : ZIH l yL_blow wsL_blow (lkR rm 7 mc ms) (zX ea mi sa) D T (S := S) (ouW out T f :: ((o, .inr (6, vs)) :: wt)) (fun u => (out, .inl (T 2, 1, .inr (.inl (vp_updL f (0 : Int32).toNatClampNeg rv.toInt64)))) :: w' u) [.ref o, .int x0, .int x1, .int x2, .int x3, .ref out] 0 mc ms := by
  refine z_inIHW (cc := cL_blow) (maxL := 7) (hh := [(0, 14, 17, 13), (0, 14, 21, 15), (0, 14, 25, 21)]) (rt := .int) (by decide +kernel) rfl (Nat.le_of_ble_eq_true rfl) ?_
  intro p e s m args below meth c sl9 A Q Z hX htb hnm Mz9 hl9 hret
  have Z : zC p s m args c cL_blow 7 RL wsL_blow D T A := Z
  have hx := Z.1.1
  have hb := Z.1.2.1
  have hts := Z.1.2.2.2.2
  have hl9 : lv_has sl9 7 [(0, .ref o), (1, .int (x0)), (2, .int (x1)), (3, .int (x2)), (4, .int (x3)), (5, .ref out)] := hl9
  obtain ⟨is9, hp1, hp2, hp3⟩ := mid_put2 (ouW out T f) ((o, .inr (6, vs)) :: wt)
  refine lv_aload hx hb dL_blow_0 (lv_at hl9 5 rfl) ?_
  refine lv_iconst (v := 0) hx hb dL_blow_2 (by decide) ?_
  refine lv_aload_n hx hb dL_blow_3 rfl (lv_at hl9 0 rfl) ?_
  refine lv_iload_n hx hb dL_blow_4 rfl (lv_at hl9 1 rfl) ?_
  refine lv_iload_n hx hb dL_blow_5 rfl (lv_at hl9 2 rfl) ?_
  refine lv_iload_n hx hb dL_blow_6 rfl (lv_at hl9 3 rfl) ?_
  refine lv_iload hx hb dL_blow_7 (lv_at hl9 4 rfl) ?_
  refine z_callViH (As := [.int (x0), .int (x1), .int (x2), .int (x3)]) (rest := [.int 0, .ref out]) (wc := ((o, .inr (6, vs)) :: wt)) (zW_k ea mi sa) hX.1 Z Mz9 hM (cwV 4 hts gL_blow_X5_blow rfl hrm.1 hrm.2 (by decide +kernel) ⟨Nat.le_refl _, Nat.le_refl _⟩) is9 hp1 hp2 hf hlen (va_recv Z.2.1 Mz9.1 (ci := 6) (q0 := 1) rfl rfl) rfl hl9.1 (Nat.le_of_ble_eq_true rfl) dL_blow_9 ⟨Nat.le_of_eq (Nat.zero_add _), Nat.le_of_eq (Nat.zero_add _)⟩ rfl (fun u Hp9 lc9 Mz9 => ?_)
  have Mz9 : zM D A s.heap (ouW out T f :: w' u) _ _ := zM_w (hp3 _ (hlen u)) Mz9
  refine lv_i2l (v := rv.toInt64) hx hb dL_blow_12 rfl ?_
  refine va_last hx hb Z.2.1 Mz9.1 Mz9.2.1 Mz9.2.2 0 2 (cA := T 2) (n := 1) (f := f) rfl rfl (i := 0) (by unfold vp_in; decide) dL_blow_13 (fun Hp9 lc9 hP9 hD9 hS9 => ?_)
  have Mz9 : zM D A s.heap ((out, .inl (T 2, 1, .inr (.inl (vp_updL f (0 : Int32).toNatClampNeg rv.toInt64)))) :: w' u) _ _ := ⟨hP9, hD9, hS9⟩
  refine lv_goto (tgt := 29) hx hb dL_blow_14 (by decide) ?_
  refine lv_iconst (v := 0) hx hb dL_blow_29 (by decide) ?_
  exact hret _ _ _ _ _ sl9 _ _ u Mz9 (rfl) rfl rfl (Nat.le_of_eq (Nat.zero_add _)) (Nat.le_of_eq (Nat.zero_add _)) dL_blow_30
set_option maxHeartbeats 4000000 in
set_option maxRecDepth 100000 in
theorem lk_blow_1 (l : Launch) (D : va_G) (T : Nat → ClassId) (ea mi : Nat) (sa : Nat → Nat) (o out : Nat) (f : Nat → Int64) (x0 x1 x2 x3 : Int32) {vs : List Value} {wt : va_W} {rm : Room} (hM : ZB l yX5_blow wsX5_blow rm (zW ea mi sa) D T ((o, .inr (6, vs)) :: wt) [.ref o, .int x0, .int x1, .int x2, .int x3] "java/lang/IndexOutOfBoundsException") (hrm : rm.cells = 1 ∧ rm.slots = 6) : ZIH l yL_blow wsL_blow (lkR rm 7 1 6) (zX ea mi sa) D T (S := Unit) (ouW out T f :: ((o, .inr (6, vs)) :: wt)) (fun _ => ouW out T f :: ((o, .inr (6, vs)) :: wt)) [.ref o, .int x0, .int x1, .int x2, .int x3, .ref out] 1 1 6 := by
  refine z_inIHW (cc := cL_blow) (maxL := 7) (hh := [(0, 14, 17, 13), (0, 14, 21, 15), (0, 14, 25, 21)]) (rt := .int) (by decide +kernel) rfl (Nat.le_of_ble_eq_true rfl) ?_
  intro p e s m args below meth c sl9 A Q Z hX htb hnm Mz9 hl9 hret
  have Z : zC p s m args c cL_blow 7 RL wsL_blow D T A := Z
  have hx := Z.1.1
  have hb := Z.1.2.1
  have hts := Z.1.2.2.2.2
  have hl9 : lv_has sl9 7 [(0, .ref o), (1, .int (x0)), (2, .int (x1)), (3, .int (x2)), (4, .int (x3)), (5, .ref out)] := hl9
  obtain ⟨is9, hp1, hp2, hp3⟩ := mid_put2 (ouW out T f) ((o, .inr (6, vs)) :: wt)
  refine lv_aload hx hb dL_blow_0 (lv_at hl9 5 rfl) ?_
  refine lv_iconst (v := 0) hx hb dL_blow_2 (by decide) ?_
  refine lv_aload_n hx hb dL_blow_3 rfl (lv_at hl9 0 rfl) ?_
  refine lv_iload_n hx hb dL_blow_4 rfl (lv_at hl9 1 rfl) ?_
  refine lv_iload_n hx hb dL_blow_5 rfl (lv_at hl9 2 rfl) ?_
  refine lv_iload_n hx hb dL_blow_6 rfl (lv_at hl9 3 rfl) ?_
  refine lv_iload hx hb dL_blow_7 (lv_at hl9 4 rfl) ?_
  refine z_callVx (As := [.int (x0), .int (x1), .int (x2), .int (x3)]) (rest := [.int 0, .ref out]) (wc := ((o, .inr (6, vs)) :: wt)) (zW_k ea mi sa) hX.1 Z Mz9 hM (cwV 4 hts gL_blow_X5_blow rfl hrm.1 hrm.2 (by decide +kernel) ⟨Nat.le_refl _, Nat.le_refl _⟩) is9 hp1 hp2 (va_recv Z.2.1 Mz9.1 (ci := 6) (q0 := 1) rfl rfl) rfl hl9.1 (Nat.le_of_ble_eq_true rfl) dL_blow_9 ⟨Nat.le_of_ble_eq_true rfl, Nat.le_of_ble_eq_true rfl⟩ rfl (fun Hp9 lc9 q9 ce Mz9 hcell hv hcl => ?_)
  refine vx_catch (name := "java/lang/IndexOutOfBoundsException") Z.1.2.2.2.1 [] (⟨0, 14, 17, 13⟩ : ExceptionTableEntry) [(⟨0, 14, 21, 15⟩ : ExceptionTableEntry), (⟨0, 14, 25, 21⟩ : ExceptionTableEntry)] htb (fun z hz => absurd hz List.not_mem_nil) (by decide) (by decide) (hts (.classLink RL 13 "java/lang/IndexOutOfBoundsException") (by decide +kernel)) ((zWw hX.1 (w := .castable "java/lang/IndexOutOfBoundsException" "java/lang/IndexOutOfBoundsException") (by decide +kernel)).use rfl) hcell hv hcl ?_
  refine lv_astore (lv' := [(6, .ref q9), (0, .ref o), (1, .int (x0)), (2, .int (x1)), (3, .int (x2)), (4, .int (x3)), (5, .ref out)]) hx hb dL_blow_17 hl9 (by decide) rfl (fun sl9 hl9 => ?_)
  refine lv_iconst (v := 1) hx hb dL_blow_19 (by decide) ?_
  exact hret _ _ _ _ _ sl9 _ _ () Mz9 rfl rfl rfl (Nat.le_of_ble_eq_true rfl) (Nat.le_of_ble_eq_true rfl) dL_blow_20
set_option maxHeartbeats 4000000 in
set_option maxRecDepth 100000 in
theorem lk_blow_2 (l : Launch) (D : va_G) (T : Nat → ClassId) (ea mi : Nat) (sa : Nat → Nat) (o out : Nat) (f : Nat → Int64) (x0 x1 x2 x3 : Int32) {vs : List Value} {wt : va_W} {rm : Room} (hM : ZB l yX5_blow wsX5_blow rm (zW ea mi sa) D T ((o, .inr (6, vs)) :: wt) [.ref o, .int x0, .int x1, .int x2, .int x3] "java/lang/IllegalArgumentException") (hrm : rm.cells = 1 ∧ rm.slots = 6) : ZIH l yL_blow wsL_blow (lkR rm 7 1 6) (zX ea mi sa) D T (S := Unit) (ouW out T f :: ((o, .inr (6, vs)) :: wt)) (fun _ => ouW out T f :: ((o, .inr (6, vs)) :: wt)) [.ref o, .int x0, .int x1, .int x2, .int x3, .ref out] 2 1 6 := by
  refine z_inIHW (cc := cL_blow) (maxL := 7) (hh := [(0, 14, 17, 13), (0, 14, 21, 15), (0, 14, 25, 21)]) (rt := .int) (by decide +kernel) rfl (Nat.le_of_ble_eq_true rfl) ?_
  intro p e s m args below meth c sl9 A Q Z hX htb hnm Mz9 hl9 hret
  have Z : zC p s m args c cL_blow 7 RL wsL_blow D T A := Z
  have hx := Z.1.1
  have hb := Z.1.2.1
  have hts := Z.1.2.2.2.2
  have hl9 : lv_has sl9 7 [(0, .ref o), (1, .int (x0)), (2, .int (x1)), (3, .int (x2)), (4, .int (x3)), (5, .ref out)] := hl9
  obtain ⟨is9, hp1, hp2, hp3⟩ := mid_put2 (ouW out T f) ((o, .inr (6, vs)) :: wt)
  refine lv_aload hx hb dL_blow_0 (lv_at hl9 5 rfl) ?_
  refine lv_iconst (v := 0) hx hb dL_blow_2 (by decide) ?_
  refine lv_aload_n hx hb dL_blow_3 rfl (lv_at hl9 0 rfl) ?_
  refine lv_iload_n hx hb dL_blow_4 rfl (lv_at hl9 1 rfl) ?_
  refine lv_iload_n hx hb dL_blow_5 rfl (lv_at hl9 2 rfl) ?_
  refine lv_iload_n hx hb dL_blow_6 rfl (lv_at hl9 3 rfl) ?_
  refine lv_iload hx hb dL_blow_7 (lv_at hl9 4 rfl) ?_
  refine z_callVx (As := [.int (x0), .int (x1), .int (x2), .int (x3)]) (rest := [.int 0, .ref out]) (wc := ((o, .inr (6, vs)) :: wt)) (zW_k ea mi sa) hX.1 Z Mz9 hM (cwV 4 hts gL_blow_X5_blow rfl hrm.1 hrm.2 (by decide +kernel) ⟨Nat.le_refl _, Nat.le_refl _⟩) is9 hp1 hp2 (va_recv Z.2.1 Mz9.1 (ci := 6) (q0 := 1) rfl rfl) rfl hl9.1 (Nat.le_of_ble_eq_true rfl) dL_blow_9 ⟨Nat.le_of_ble_eq_true rfl, Nat.le_of_ble_eq_true rfl⟩ rfl (fun Hp9 lc9 q9 ce Mz9 hcell hv hcl => ?_)
  refine vx_catch (name := "java/lang/IllegalArgumentException") Z.1.2.2.2.1 [(⟨0, 14, 17, 13⟩ : ExceptionTableEntry)] (⟨0, 14, 21, 15⟩ : ExceptionTableEntry) [(⟨0, 14, 25, 21⟩ : ExceptionTableEntry)] htb (List.forall_mem_cons.mpr ⟨Or.inr ⟨by decide, "java/lang/IndexOutOfBoundsException", hts (.classLink RL 13 "java/lang/IndexOutOfBoundsException") (by decide +kernel), hX.2.1⟩, fun _ hz => absurd hz List.not_mem_nil⟩) (by decide) (by decide) (hts (.classLink RL 15 "java/lang/IllegalArgumentException") (by decide +kernel)) ((zWw hX.1 (w := .castable "java/lang/IllegalArgumentException" "java/lang/IllegalArgumentException") (by decide +kernel)).use rfl) hcell hv hcl ?_
  refine lv_astore (lv' := [(6, .ref q9), (0, .ref o), (1, .int (x0)), (2, .int (x1)), (3, .int (x2)), (4, .int (x3)), (5, .ref out)]) hx hb dL_blow_21 hl9 (by decide) rfl (fun sl9 hl9 => ?_)
  refine lv_iconst (v := 2) hx hb dL_blow_23 (by decide) ?_
  exact hret _ _ _ _ _ sl9 _ _ () Mz9 rfl rfl rfl (Nat.le_of_ble_eq_true rfl) (Nat.le_of_ble_eq_true rfl) dL_blow_24
set_option maxHeartbeats 4000000 in
set_option maxRecDepth 100000 in
theorem lk_blow_3 (l : Launch) (D : va_G) (T : Nat → ClassId) (ea mi : Nat) (sa : Nat → Nat) (o out : Nat) (f : Nat → Int64) (x0 x1 x2 x3 : Int32) {vs : List Value} {wt : va_W} {rm : Room} (hM : ZB l yX5_blow wsX5_blow rm (zW ea mi sa) D T ((o, .inr (6, vs)) :: wt) [.ref o, .int x0, .int x1, .int x2, .int x3] "java/lang/IllegalStateException") (hrm : rm.cells = 1 ∧ rm.slots = 6) : ZIH l yL_blow wsL_blow (lkR rm 7 1 6) (zX ea mi sa) D T (S := Unit) (ouW out T f :: ((o, .inr (6, vs)) :: wt)) (fun _ => ouW out T f :: ((o, .inr (6, vs)) :: wt)) [.ref o, .int x0, .int x1, .int x2, .int x3, .ref out] 3 1 6 := by
  refine z_inIHW (cc := cL_blow) (maxL := 7) (hh := [(0, 14, 17, 13), (0, 14, 21, 15), (0, 14, 25, 21)]) (rt := .int) (by decide +kernel) rfl (Nat.le_of_ble_eq_true rfl) ?_
  intro p e s m args below meth c sl9 A Q Z hX htb hnm Mz9 hl9 hret
  have Z : zC p s m args c cL_blow 7 RL wsL_blow D T A := Z
  have hx := Z.1.1
  have hb := Z.1.2.1
  have hts := Z.1.2.2.2.2
  have hl9 : lv_has sl9 7 [(0, .ref o), (1, .int (x0)), (2, .int (x1)), (3, .int (x2)), (4, .int (x3)), (5, .ref out)] := hl9
  obtain ⟨is9, hp1, hp2, hp3⟩ := mid_put2 (ouW out T f) ((o, .inr (6, vs)) :: wt)
  refine lv_aload hx hb dL_blow_0 (lv_at hl9 5 rfl) ?_
  refine lv_iconst (v := 0) hx hb dL_blow_2 (by decide) ?_
  refine lv_aload_n hx hb dL_blow_3 rfl (lv_at hl9 0 rfl) ?_
  refine lv_iload_n hx hb dL_blow_4 rfl (lv_at hl9 1 rfl) ?_
  refine lv_iload_n hx hb dL_blow_5 rfl (lv_at hl9 2 rfl) ?_
  refine lv_iload_n hx hb dL_blow_6 rfl (lv_at hl9 3 rfl) ?_
  refine lv_iload hx hb dL_blow_7 (lv_at hl9 4 rfl) ?_
  refine z_callVx (As := [.int (x0), .int (x1), .int (x2), .int (x3)]) (rest := [.int 0, .ref out]) (wc := ((o, .inr (6, vs)) :: wt)) (zW_k ea mi sa) hX.1 Z Mz9 hM (cwV 4 hts gL_blow_X5_blow rfl hrm.1 hrm.2 (by decide +kernel) ⟨Nat.le_refl _, Nat.le_refl _⟩) is9 hp1 hp2 (va_recv Z.2.1 Mz9.1 (ci := 6) (q0 := 1) rfl rfl) rfl hl9.1 (Nat.le_of_ble_eq_true rfl) dL_blow_9 ⟨Nat.le_of_ble_eq_true rfl, Nat.le_of_ble_eq_true rfl⟩ rfl (fun Hp9 lc9 q9 ce Mz9 hcell hv hcl => ?_)
  refine vx_catch (name := "java/lang/IllegalStateException") Z.1.2.2.2.1 [(⟨0, 14, 17, 13⟩ : ExceptionTableEntry), (⟨0, 14, 21, 15⟩ : ExceptionTableEntry)] (⟨0, 14, 25, 21⟩ : ExceptionTableEntry) [] htb (List.forall_mem_cons.mpr ⟨Or.inr ⟨by decide, "java/lang/IndexOutOfBoundsException", hts (.classLink RL 13 "java/lang/IndexOutOfBoundsException") (by decide +kernel), hX.2.2.1⟩, List.forall_mem_cons.mpr ⟨Or.inr ⟨by decide, "java/lang/IllegalArgumentException", hts (.classLink RL 15 "java/lang/IllegalArgumentException") (by decide +kernel), hX.2.2.2⟩, fun _ hz => absurd hz List.not_mem_nil⟩⟩) (by decide) (by decide) (hts (.classLink RL 21 "java/lang/IllegalStateException") (by decide +kernel)) ((zWw hX.1 (w := .castable "java/lang/IllegalStateException" "java/lang/IllegalStateException") (by decide +kernel)).use rfl) hcell hv hcl ?_
  refine lv_astore (lv' := [(6, .ref q9), (0, .ref o), (1, .int (x0)), (2, .int (x1)), (3, .int (x2)), (4, .int (x3)), (5, .ref out)]) hx hb dL_blow_25 hl9 (by decide) rfl (fun sl9 hl9 => ?_)
  refine lv_iconst (v := 3) hx hb dL_blow_27 (by decide) ?_
  exact hret _ _ _ _ _ sl9 _ _ () Mz9 rfl rfl rfl (Nat.le_of_ble_eq_true rfl) (Nat.le_of_ble_eq_true rfl) dL_blow_28
set_option maxHeartbeats 4000000 in
set_option maxRecDepth 100000 in
theorem lk_cut (l : Launch) (D : va_G) (T : Nat → ClassId) (ea mi : Nat) (sa : Nat → Nat) (o out : Nat) (f : Nat → Int64) (x0 x1 x2 : Int32) {vs : List Value} {wt : va_W} {rm : Room} {S : Type} {w' : S → va_W} {mc ms : Nat} {rv : Int32} (hM : ZIH l yX5_cut wsX5_cut rm (zW ea mi sa) D T (S := S) ((o, .inr (6, vs)) :: wt) w' [.ref o, .int x0, .int x1, .int x2] rv mc ms) (hrm : rm.cells = mc ∧ rm.slots = ms) (hf : ∀ (u : S) (j : Nat), j < ((o, .inr (6, vs)) :: wt).length → ((w' u).map Prod.fst)[j]? = (((o, .inr (6, vs)) :: wt).map Prod.fst)[j]?) (hlen : ∀ u : S, ((o, .inr (6, vs)) :: wt).length ≤ (w' u).length) : ZIH l yL_cut wsL_cut (lkR rm 6 mc ms) (zX ea mi sa) D T (S := S) (ouW out T f :: ((o, .inr (6, vs)) :: wt)) (fun u => (out, .inl (T 2, 1, .inr (.inl (vp_updL f (0 : Int32).toNatClampNeg rv.toInt64)))) :: w' u) [.ref o, .int x0, .int x1, .int x2, .ref out] 0 mc ms := by
  refine z_inIHW (cc := cL_cut) (maxL := 6) (hh := [(0, 12, 15, 13), (0, 12, 19, 15)]) (rt := .int) (by decide +kernel) rfl (Nat.le_of_ble_eq_true rfl) ?_
  intro p e s m args below meth c sl9 A Q Z hX htb hnm Mz9 hl9 hret
  have Z : zC p s m args c cL_cut 6 RL wsL_cut D T A := Z
  have hx := Z.1.1
  have hb := Z.1.2.1
  have hts := Z.1.2.2.2.2
  have hl9 : lv_has sl9 6 [(0, .ref o), (1, .int (x0)), (2, .int (x1)), (3, .int (x2)), (4, .ref out)] := hl9
  obtain ⟨is9, hp1, hp2, hp3⟩ := mid_put2 (ouW out T f) ((o, .inr (6, vs)) :: wt)
  refine lv_aload hx hb dL_cut_0 (lv_at hl9 4 rfl) ?_
  refine lv_iconst (v := 0) hx hb dL_cut_2 (by decide) ?_
  refine lv_aload_n hx hb dL_cut_3 rfl (lv_at hl9 0 rfl) ?_
  refine lv_iload_n hx hb dL_cut_4 rfl (lv_at hl9 1 rfl) ?_
  refine lv_iload_n hx hb dL_cut_5 rfl (lv_at hl9 2 rfl) ?_
  refine lv_iload_n hx hb dL_cut_6 rfl (lv_at hl9 3 rfl) ?_
  refine z_callViH (As := [.int (x0), .int (x1), .int (x2)]) (rest := [.int 0, .ref out]) (wc := ((o, .inr (6, vs)) :: wt)) (zW_k ea mi sa) hX.1 Z Mz9 hM (cwV 3 hts gL_cut_X5_cut rfl hrm.1 hrm.2 (by decide +kernel) ⟨Nat.le_refl _, Nat.le_refl _⟩) is9 hp1 hp2 hf hlen (va_recv Z.2.1 Mz9.1 (ci := 6) (q0 := 1) rfl rfl) rfl hl9.1 (Nat.le_of_ble_eq_true rfl) dL_cut_7 ⟨Nat.le_of_eq (Nat.zero_add _), Nat.le_of_eq (Nat.zero_add _)⟩ rfl (fun u Hp9 lc9 Mz9 => ?_)
  have Mz9 : zM D A s.heap (ouW out T f :: w' u) _ _ := zM_w (hp3 _ (hlen u)) Mz9
  refine lv_i2l (v := rv.toInt64) hx hb dL_cut_10 rfl ?_
  refine va_last hx hb Z.2.1 Mz9.1 Mz9.2.1 Mz9.2.2 0 2 (cA := T 2) (n := 1) (f := f) rfl rfl (i := 0) (by unfold vp_in; decide) dL_cut_11 (fun Hp9 lc9 hP9 hD9 hS9 => ?_)
  have Mz9 : zM D A s.heap ((out, .inl (T 2, 1, .inr (.inl (vp_updL f (0 : Int32).toNatClampNeg rv.toInt64)))) :: w' u) _ _ := ⟨hP9, hD9, hS9⟩
  refine lv_goto (tgt := 23) hx hb dL_cut_12 (by decide) ?_
  refine lv_iconst (v := 0) hx hb dL_cut_23 (by decide) ?_
  exact hret _ _ _ _ _ sl9 _ _ u Mz9 (rfl) rfl rfl (Nat.le_of_eq (Nat.zero_add _)) (Nat.le_of_eq (Nat.zero_add _)) dL_cut_24
set_option maxHeartbeats 4000000 in
set_option maxRecDepth 100000 in
theorem lk_cut_1 (l : Launch) (D : va_G) (T : Nat → ClassId) (ea mi : Nat) (sa : Nat → Nat) (o out : Nat) (f : Nat → Int64) (x0 x1 x2 : Int32) {vs : List Value} {wt : va_W} {rm : Room} (hM : ZB l yX5_cut wsX5_cut rm (zW ea mi sa) D T ((o, .inr (6, vs)) :: wt) [.ref o, .int x0, .int x1, .int x2] "java/lang/IndexOutOfBoundsException") (hrm : rm.cells = 1 ∧ rm.slots = 6) : ZIH l yL_cut wsL_cut (lkR rm 6 1 6) (zX ea mi sa) D T (S := Unit) (ouW out T f :: ((o, .inr (6, vs)) :: wt)) (fun _ => ouW out T f :: ((o, .inr (6, vs)) :: wt)) [.ref o, .int x0, .int x1, .int x2, .ref out] 1 1 6 := by
  refine z_inIHW (cc := cL_cut) (maxL := 6) (hh := [(0, 12, 15, 13), (0, 12, 19, 15)]) (rt := .int) (by decide +kernel) rfl (Nat.le_of_ble_eq_true rfl) ?_
  intro p e s m args below meth c sl9 A Q Z hX htb hnm Mz9 hl9 hret
  have Z : zC p s m args c cL_cut 6 RL wsL_cut D T A := Z
  have hx := Z.1.1
  have hb := Z.1.2.1
  have hts := Z.1.2.2.2.2
  have hl9 : lv_has sl9 6 [(0, .ref o), (1, .int (x0)), (2, .int (x1)), (3, .int (x2)), (4, .ref out)] := hl9
  obtain ⟨is9, hp1, hp2, hp3⟩ := mid_put2 (ouW out T f) ((o, .inr (6, vs)) :: wt)
  refine lv_aload hx hb dL_cut_0 (lv_at hl9 4 rfl) ?_
  refine lv_iconst (v := 0) hx hb dL_cut_2 (by decide) ?_
  refine lv_aload_n hx hb dL_cut_3 rfl (lv_at hl9 0 rfl) ?_
  refine lv_iload_n hx hb dL_cut_4 rfl (lv_at hl9 1 rfl) ?_
  refine lv_iload_n hx hb dL_cut_5 rfl (lv_at hl9 2 rfl) ?_
  refine lv_iload_n hx hb dL_cut_6 rfl (lv_at hl9 3 rfl) ?_
  refine z_callVx (As := [.int (x0), .int (x1), .int (x2)]) (rest := [.int 0, .ref out]) (wc := ((o, .inr (6, vs)) :: wt)) (zW_k ea mi sa) hX.1 Z Mz9 hM (cwV 3 hts gL_cut_X5_cut rfl hrm.1 hrm.2 (by decide +kernel) ⟨Nat.le_refl _, Nat.le_refl _⟩) is9 hp1 hp2 (va_recv Z.2.1 Mz9.1 (ci := 6) (q0 := 1) rfl rfl) rfl hl9.1 (Nat.le_of_ble_eq_true rfl) dL_cut_7 ⟨Nat.le_of_ble_eq_true rfl, Nat.le_of_ble_eq_true rfl⟩ rfl (fun Hp9 lc9 q9 ce Mz9 hcell hv hcl => ?_)
  refine vx_catch (name := "java/lang/IndexOutOfBoundsException") Z.1.2.2.2.1 [] (⟨0, 12, 15, 13⟩ : ExceptionTableEntry) [(⟨0, 12, 19, 15⟩ : ExceptionTableEntry)] htb (fun z hz => absurd hz List.not_mem_nil) (by decide) (by decide) (hts (.classLink RL 13 "java/lang/IndexOutOfBoundsException") (by decide +kernel)) ((zWw hX.1 (w := .castable "java/lang/IndexOutOfBoundsException" "java/lang/IndexOutOfBoundsException") (by decide +kernel)).use rfl) hcell hv hcl ?_
  refine lv_astore (lv' := [(5, .ref q9), (0, .ref o), (1, .int (x0)), (2, .int (x1)), (3, .int (x2)), (4, .ref out)]) hx hb dL_cut_15 hl9 (by decide) rfl (fun sl9 hl9 => ?_)
  refine lv_iconst (v := 1) hx hb dL_cut_17 (by decide) ?_
  exact hret _ _ _ _ _ sl9 _ _ () Mz9 rfl rfl rfl (Nat.le_of_ble_eq_true rfl) (Nat.le_of_ble_eq_true rfl) dL_cut_18
set_option maxHeartbeats 4000000 in
set_option maxRecDepth 100000 in
theorem lk_cut_2 (l : Launch) (D : va_G) (T : Nat → ClassId) (ea mi : Nat) (sa : Nat → Nat) (o out : Nat) (f : Nat → Int64) (x0 x1 x2 : Int32) {vs : List Value} {wt : va_W} {rm : Room} (hM : ZB l yX5_cut wsX5_cut rm (zW ea mi sa) D T ((o, .inr (6, vs)) :: wt) [.ref o, .int x0, .int x1, .int x2] "java/lang/IllegalArgumentException") (hrm : rm.cells = 1 ∧ rm.slots = 6) : ZIH l yL_cut wsL_cut (lkR rm 6 1 6) (zX ea mi sa) D T (S := Unit) (ouW out T f :: ((o, .inr (6, vs)) :: wt)) (fun _ => ouW out T f :: ((o, .inr (6, vs)) :: wt)) [.ref o, .int x0, .int x1, .int x2, .ref out] 2 1 6 := by
  refine z_inIHW (cc := cL_cut) (maxL := 6) (hh := [(0, 12, 15, 13), (0, 12, 19, 15)]) (rt := .int) (by decide +kernel) rfl (Nat.le_of_ble_eq_true rfl) ?_
  intro p e s m args below meth c sl9 A Q Z hX htb hnm Mz9 hl9 hret
  have Z : zC p s m args c cL_cut 6 RL wsL_cut D T A := Z
  have hx := Z.1.1
  have hb := Z.1.2.1
  have hts := Z.1.2.2.2.2
  have hl9 : lv_has sl9 6 [(0, .ref o), (1, .int (x0)), (2, .int (x1)), (3, .int (x2)), (4, .ref out)] := hl9
  obtain ⟨is9, hp1, hp2, hp3⟩ := mid_put2 (ouW out T f) ((o, .inr (6, vs)) :: wt)
  refine lv_aload hx hb dL_cut_0 (lv_at hl9 4 rfl) ?_
  refine lv_iconst (v := 0) hx hb dL_cut_2 (by decide) ?_
  refine lv_aload_n hx hb dL_cut_3 rfl (lv_at hl9 0 rfl) ?_
  refine lv_iload_n hx hb dL_cut_4 rfl (lv_at hl9 1 rfl) ?_
  refine lv_iload_n hx hb dL_cut_5 rfl (lv_at hl9 2 rfl) ?_
  refine lv_iload_n hx hb dL_cut_6 rfl (lv_at hl9 3 rfl) ?_
  refine z_callVx (As := [.int (x0), .int (x1), .int (x2)]) (rest := [.int 0, .ref out]) (wc := ((o, .inr (6, vs)) :: wt)) (zW_k ea mi sa) hX.1 Z Mz9 hM (cwV 3 hts gL_cut_X5_cut rfl hrm.1 hrm.2 (by decide +kernel) ⟨Nat.le_refl _, Nat.le_refl _⟩) is9 hp1 hp2 (va_recv Z.2.1 Mz9.1 (ci := 6) (q0 := 1) rfl rfl) rfl hl9.1 (Nat.le_of_ble_eq_true rfl) dL_cut_7 ⟨Nat.le_of_ble_eq_true rfl, Nat.le_of_ble_eq_true rfl⟩ rfl (fun Hp9 lc9 q9 ce Mz9 hcell hv hcl => ?_)
  refine vx_catch (name := "java/lang/IllegalArgumentException") Z.1.2.2.2.1 [(⟨0, 12, 15, 13⟩ : ExceptionTableEntry)] (⟨0, 12, 19, 15⟩ : ExceptionTableEntry) [] htb (List.forall_mem_cons.mpr ⟨Or.inr ⟨by decide, "java/lang/IndexOutOfBoundsException", hts (.classLink RL 13 "java/lang/IndexOutOfBoundsException") (by decide +kernel), hX.2.1⟩, fun _ hz => absurd hz List.not_mem_nil⟩) (by decide) (by decide) (hts (.classLink RL 15 "java/lang/IllegalArgumentException") (by decide +kernel)) ((zWw hX.1 (w := .castable "java/lang/IllegalArgumentException" "java/lang/IllegalArgumentException") (by decide +kernel)).use rfl) hcell hv hcl ?_
  refine lv_astore (lv' := [(5, .ref q9), (0, .ref o), (1, .int (x0)), (2, .int (x1)), (3, .int (x2)), (4, .ref out)]) hx hb dL_cut_19 hl9 (by decide) rfl (fun sl9 hl9 => ?_)
  refine lv_iconst (v := 2) hx hb dL_cut_21 (by decide) ?_
  exact hret _ _ _ _ _ sl9 _ _ () Mz9 rfl rfl rfl (Nat.le_of_ble_eq_true rfl) (Nat.le_of_ble_eq_true rfl) dL_cut_22
set_option maxHeartbeats 4000000 in
set_option maxRecDepth 100000 in
theorem lk_die (l : Launch) (D : va_G) (T : Nat → ClassId) (ea mi : Nat) (sa : Nat → Nat) (o out : Nat) (f : Nat → Int64)  {vs : List Value} {wt : va_W} {rm : Room} {S : Type} {w' : S → va_W} {mc ms : Nat} {rv : Int32} (hM : ZIH l yX5_die wsX5_die rm (zW ea mi sa) D T (S := S) ((o, .inr (6, vs)) :: wt) w' [.ref o] rv mc ms) (hrm : rm.cells = mc ∧ rm.slots = ms) (hf : ∀ (u : S) (j : Nat), j < ((o, .inr (6, vs)) :: wt).length → ((w' u).map Prod.fst)[j]? = (((o, .inr (6, vs)) :: wt).map Prod.fst)[j]?) (hlen : ∀ u : S, ((o, .inr (6, vs)) :: wt).length ≤ (w' u).length) : ZIH l yL_die wsL_die (lkR rm 2 mc ms) (zX ea mi sa) D T (S := S) (ouW out T f :: ((o, .inr (6, vs)) :: wt)) (fun u => (out, .inl (T 2, 1, .inr (.inl (vp_updL f (0 : Int32).toNatClampNeg rv.toInt64)))) :: w' u) [.ref o, .ref out] 0 mc ms := by
  refine z_inIHW (cc := cL_die) (maxL := 3) (hh := [(0, 8, 11, 21)]) (rt := .int) (by decide +kernel) rfl (Nat.le_of_ble_eq_true rfl) ?_
  intro p e s m args below meth c sl9 A Q Z hX htb hnm Mz9 hl9 hret
  have Z : zC p s m args c cL_die 3 RL wsL_die D T A := Z
  have hx := Z.1.1
  have hb := Z.1.2.1
  have hts := Z.1.2.2.2.2
  have hl9 : lv_has sl9 3 [(0, .ref o), (1, .ref out)] := hl9
  obtain ⟨is9, hp1, hp2, hp3⟩ := mid_put2 (ouW out T f) ((o, .inr (6, vs)) :: wt)
  refine lv_aload_n hx hb dL_die_0 rfl (lv_at hl9 1 rfl) ?_
  refine lv_iconst (v := 0) hx hb dL_die_1 (by decide) ?_
  refine lv_aload_n hx hb dL_die_2 rfl (lv_at hl9 0 rfl) ?_
  refine z_callViH (As := []) (rest := [.int 0, .ref out]) (wc := ((o, .inr (6, vs)) :: wt)) (zW_k ea mi sa) hX.1 Z Mz9 hM (cwV 0 hts gL_die_X5_die rfl hrm.1 hrm.2 (by decide +kernel) ⟨Nat.le_refl _, Nat.le_refl _⟩) is9 hp1 hp2 hf hlen (va_recv Z.2.1 Mz9.1 (ci := 6) (q0 := 1) rfl rfl) rfl hl9.1 (Nat.le_of_ble_eq_true rfl) dL_die_3 ⟨Nat.le_of_eq (Nat.zero_add _), Nat.le_of_eq (Nat.zero_add _)⟩ rfl (fun u Hp9 lc9 Mz9 => ?_)
  have Mz9 : zM D A s.heap (ouW out T f :: w' u) _ _ := zM_w (hp3 _ (hlen u)) Mz9
  refine lv_i2l (v := rv.toInt64) hx hb dL_die_6 rfl ?_
  refine va_last hx hb Z.2.1 Mz9.1 Mz9.2.1 Mz9.2.2 0 2 (cA := T 2) (n := 1) (f := f) rfl rfl (i := 0) (by unfold vp_in; decide) dL_die_7 (fun Hp9 lc9 hP9 hD9 hS9 => ?_)
  have Mz9 : zM D A s.heap ((out, .inl (T 2, 1, .inr (.inl (vp_updL f (0 : Int32).toNatClampNeg rv.toInt64)))) :: w' u) _ _ := ⟨hP9, hD9, hS9⟩
  refine lv_goto (tgt := 14) hx hb dL_die_8 (by decide) ?_
  refine lv_iconst (v := 0) hx hb dL_die_14 (by decide) ?_
  exact hret _ _ _ _ _ sl9 _ _ u Mz9 (rfl) rfl rfl (Nat.le_of_eq (Nat.zero_add _)) (Nat.le_of_eq (Nat.zero_add _)) dL_die_15
set_option maxHeartbeats 4000000 in
set_option maxRecDepth 100000 in
theorem lk_die_1 (l : Launch) (D : va_G) (T : Nat → ClassId) (ea mi : Nat) (sa : Nat → Nat) (o out : Nat) (f : Nat → Int64)  {vs : List Value} {wt : va_W} {rm : Room} (hM : ZB l yX5_die wsX5_die rm (zW ea mi sa) D T ((o, .inr (6, vs)) :: wt) [.ref o] "java/lang/IllegalStateException") (hrm : rm.cells = 1 ∧ rm.slots = 6) : ZIH l yL_die wsL_die (lkR rm 2 1 6) (zX ea mi sa) D T (S := Unit) (ouW out T f :: ((o, .inr (6, vs)) :: wt)) (fun _ => ouW out T f :: ((o, .inr (6, vs)) :: wt)) [.ref o, .ref out] 1 1 6 := by
  refine z_inIHW (cc := cL_die) (maxL := 3) (hh := [(0, 8, 11, 21)]) (rt := .int) (by decide +kernel) rfl (Nat.le_of_ble_eq_true rfl) ?_
  intro p e s m args below meth c sl9 A Q Z hX htb hnm Mz9 hl9 hret
  have Z : zC p s m args c cL_die 3 RL wsL_die D T A := Z
  have hx := Z.1.1
  have hb := Z.1.2.1
  have hts := Z.1.2.2.2.2
  have hl9 : lv_has sl9 3 [(0, .ref o), (1, .ref out)] := hl9
  obtain ⟨is9, hp1, hp2, hp3⟩ := mid_put2 (ouW out T f) ((o, .inr (6, vs)) :: wt)
  refine lv_aload_n hx hb dL_die_0 rfl (lv_at hl9 1 rfl) ?_
  refine lv_iconst (v := 0) hx hb dL_die_1 (by decide) ?_
  refine lv_aload_n hx hb dL_die_2 rfl (lv_at hl9 0 rfl) ?_
  refine z_callVx (As := []) (rest := [.int 0, .ref out]) (wc := ((o, .inr (6, vs)) :: wt)) (zW_k ea mi sa) hX.1 Z Mz9 hM (cwV 0 hts gL_die_X5_die rfl hrm.1 hrm.2 (by decide +kernel) ⟨Nat.le_refl _, Nat.le_refl _⟩) is9 hp1 hp2 (va_recv Z.2.1 Mz9.1 (ci := 6) (q0 := 1) rfl rfl) rfl hl9.1 (Nat.le_of_ble_eq_true rfl) dL_die_3 ⟨Nat.le_of_ble_eq_true rfl, Nat.le_of_ble_eq_true rfl⟩ rfl (fun Hp9 lc9 q9 ce Mz9 hcell hv hcl => ?_)
  refine vx_catch (name := "java/lang/IllegalStateException") Z.1.2.2.2.1 [] (⟨0, 8, 11, 21⟩ : ExceptionTableEntry) [] htb (fun z hz => absurd hz List.not_mem_nil) (by decide) (by decide) (hts (.classLink RL 21 "java/lang/IllegalStateException") (by decide +kernel)) ((zWw hX.1 (w := .castable "java/lang/IllegalStateException" "java/lang/IllegalStateException") (by decide +kernel)).use rfl) hcell hv hcl ?_
  refine lv_astore_n (lv' := [(2, .ref q9), (0, .ref o), (1, .ref out)]) hx hb dL_die_11 rfl hl9 (by decide) rfl (fun sl9 hl9 => ?_)
  refine lv_iconst (v := 1) hx hb dL_die_12 (by decide) ?_
  exact hret _ _ _ _ _ sl9 _ _ () Mz9 rfl rfl rfl (Nat.le_of_ble_eq_true rfl) (Nat.le_of_ble_eq_true rfl) dL_die_13
set_option maxHeartbeats 4000000 in
set_option maxRecDepth 100000 in
theorem lk_shape (l : Launch) (D : va_G) (T : Nat → ClassId) (ea mi : Nat) (sa : Nat → Nat) (o out : Nat) (f : Nat → Int64) (x0 x1 x2 : Int32) {vs : List Value} {wt : va_W} {rm : Room} {S : Type} {w' : S → va_W} {mc ms : Nat} {rv : Int32} (hM : ZIH l yX5_shape wsX5_shape rm (zW ea mi sa) D T (S := S) ((o, .inr (6, vs)) :: wt) w' [.ref o, .int x0, .int x1, .int x2] rv mc ms) (hrm : rm.cells = mc ∧ rm.slots = ms) (hf : ∀ (u : S) (j : Nat), j < ((o, .inr (6, vs)) :: wt).length → ((w' u).map Prod.fst)[j]? = (((o, .inr (6, vs)) :: wt).map Prod.fst)[j]?) (hlen : ∀ u : S, ((o, .inr (6, vs)) :: wt).length ≤ (w' u).length) : ZIH l yL_shape wsL_shape (lkR rm 6 mc ms) (zX ea mi sa) D T (S := S) (ouW out T f :: ((o, .inr (6, vs)) :: wt)) (fun u => (out, .inl (T 2, 1, .inr (.inl (vp_updL f (0 : Int32).toNatClampNeg rv.toInt64)))) :: w' u) [.ref o, .int x0, .int x1, .int x2, .ref out] 0 mc ms := by
  refine z_inIHW (cc := cL_shape) (maxL := 6) (hh := [(0, 12, 15, 13), (0, 12, 19, 15)]) (rt := .int) (by decide +kernel) rfl (Nat.le_of_ble_eq_true rfl) ?_
  intro p e s m args below meth c sl9 A Q Z hX htb hnm Mz9 hl9 hret
  have Z : zC p s m args c cL_shape 6 RL wsL_shape D T A := Z
  have hx := Z.1.1
  have hb := Z.1.2.1
  have hts := Z.1.2.2.2.2
  have hl9 : lv_has sl9 6 [(0, .ref o), (1, .int (x0)), (2, .int (x1)), (3, .int (x2)), (4, .ref out)] := hl9
  obtain ⟨is9, hp1, hp2, hp3⟩ := mid_put2 (ouW out T f) ((o, .inr (6, vs)) :: wt)
  refine lv_aload hx hb dL_shape_0 (lv_at hl9 4 rfl) ?_
  refine lv_iconst (v := 0) hx hb dL_shape_2 (by decide) ?_
  refine lv_aload_n hx hb dL_shape_3 rfl (lv_at hl9 0 rfl) ?_
  refine lv_iload_n hx hb dL_shape_4 rfl (lv_at hl9 1 rfl) ?_
  refine lv_iload_n hx hb dL_shape_5 rfl (lv_at hl9 2 rfl) ?_
  refine lv_iload_n hx hb dL_shape_6 rfl (lv_at hl9 3 rfl) ?_
  refine z_callViH (As := [.int (x0), .int (x1), .int (x2)]) (rest := [.int 0, .ref out]) (wc := ((o, .inr (6, vs)) :: wt)) (zW_k ea mi sa) hX.1 Z Mz9 hM (cwV 3 hts gL_shape_X5_shape rfl hrm.1 hrm.2 (by decide +kernel) ⟨Nat.le_refl _, Nat.le_refl _⟩) is9 hp1 hp2 hf hlen (va_recv Z.2.1 Mz9.1 (ci := 6) (q0 := 1) rfl rfl) rfl hl9.1 (Nat.le_of_ble_eq_true rfl) dL_shape_7 ⟨Nat.le_of_eq (Nat.zero_add _), Nat.le_of_eq (Nat.zero_add _)⟩ rfl (fun u Hp9 lc9 Mz9 => ?_)
  have Mz9 : zM D A s.heap (ouW out T f :: w' u) _ _ := zM_w (hp3 _ (hlen u)) Mz9
  refine lv_i2l (v := rv.toInt64) hx hb dL_shape_10 rfl ?_
  refine va_last hx hb Z.2.1 Mz9.1 Mz9.2.1 Mz9.2.2 0 2 (cA := T 2) (n := 1) (f := f) rfl rfl (i := 0) (by unfold vp_in; decide) dL_shape_11 (fun Hp9 lc9 hP9 hD9 hS9 => ?_)
  have Mz9 : zM D A s.heap ((out, .inl (T 2, 1, .inr (.inl (vp_updL f (0 : Int32).toNatClampNeg rv.toInt64)))) :: w' u) _ _ := ⟨hP9, hD9, hS9⟩
  refine lv_goto (tgt := 23) hx hb dL_shape_12 (by decide) ?_
  refine lv_iconst (v := 0) hx hb dL_shape_23 (by decide) ?_
  exact hret _ _ _ _ _ sl9 _ _ u Mz9 (rfl) rfl rfl (Nat.le_of_eq (Nat.zero_add _)) (Nat.le_of_eq (Nat.zero_add _)) dL_shape_24
set_option maxHeartbeats 4000000 in
set_option maxRecDepth 100000 in
theorem lk_shape_1 (l : Launch) (D : va_G) (T : Nat → ClassId) (ea mi : Nat) (sa : Nat → Nat) (o out : Nat) (f : Nat → Int64) (x0 x1 x2 : Int32) {vs : List Value} {wt : va_W} {rm : Room} (hM : ZB l yX5_shape wsX5_shape rm (zW ea mi sa) D T ((o, .inr (6, vs)) :: wt) [.ref o, .int x0, .int x1, .int x2] "java/lang/IndexOutOfBoundsException") (hrm : rm.cells = 1 ∧ rm.slots = 6) : ZIH l yL_shape wsL_shape (lkR rm 6 1 6) (zX ea mi sa) D T (S := Unit) (ouW out T f :: ((o, .inr (6, vs)) :: wt)) (fun _ => ouW out T f :: ((o, .inr (6, vs)) :: wt)) [.ref o, .int x0, .int x1, .int x2, .ref out] 1 1 6 := by
  refine z_inIHW (cc := cL_shape) (maxL := 6) (hh := [(0, 12, 15, 13), (0, 12, 19, 15)]) (rt := .int) (by decide +kernel) rfl (Nat.le_of_ble_eq_true rfl) ?_
  intro p e s m args below meth c sl9 A Q Z hX htb hnm Mz9 hl9 hret
  have Z : zC p s m args c cL_shape 6 RL wsL_shape D T A := Z
  have hx := Z.1.1
  have hb := Z.1.2.1
  have hts := Z.1.2.2.2.2
  have hl9 : lv_has sl9 6 [(0, .ref o), (1, .int (x0)), (2, .int (x1)), (3, .int (x2)), (4, .ref out)] := hl9
  obtain ⟨is9, hp1, hp2, hp3⟩ := mid_put2 (ouW out T f) ((o, .inr (6, vs)) :: wt)
  refine lv_aload hx hb dL_shape_0 (lv_at hl9 4 rfl) ?_
  refine lv_iconst (v := 0) hx hb dL_shape_2 (by decide) ?_
  refine lv_aload_n hx hb dL_shape_3 rfl (lv_at hl9 0 rfl) ?_
  refine lv_iload_n hx hb dL_shape_4 rfl (lv_at hl9 1 rfl) ?_
  refine lv_iload_n hx hb dL_shape_5 rfl (lv_at hl9 2 rfl) ?_
  refine lv_iload_n hx hb dL_shape_6 rfl (lv_at hl9 3 rfl) ?_
  refine z_callVx (As := [.int (x0), .int (x1), .int (x2)]) (rest := [.int 0, .ref out]) (wc := ((o, .inr (6, vs)) :: wt)) (zW_k ea mi sa) hX.1 Z Mz9 hM (cwV 3 hts gL_shape_X5_shape rfl hrm.1 hrm.2 (by decide +kernel) ⟨Nat.le_refl _, Nat.le_refl _⟩) is9 hp1 hp2 (va_recv Z.2.1 Mz9.1 (ci := 6) (q0 := 1) rfl rfl) rfl hl9.1 (Nat.le_of_ble_eq_true rfl) dL_shape_7 ⟨Nat.le_of_ble_eq_true rfl, Nat.le_of_ble_eq_true rfl⟩ rfl (fun Hp9 lc9 q9 ce Mz9 hcell hv hcl => ?_)
  refine vx_catch (name := "java/lang/IndexOutOfBoundsException") Z.1.2.2.2.1 [] (⟨0, 12, 15, 13⟩ : ExceptionTableEntry) [(⟨0, 12, 19, 15⟩ : ExceptionTableEntry)] htb (fun z hz => absurd hz List.not_mem_nil) (by decide) (by decide) (hts (.classLink RL 13 "java/lang/IndexOutOfBoundsException") (by decide +kernel)) ((zWw hX.1 (w := .castable "java/lang/IndexOutOfBoundsException" "java/lang/IndexOutOfBoundsException") (by decide +kernel)).use rfl) hcell hv hcl ?_
  refine lv_astore (lv' := [(5, .ref q9), (0, .ref o), (1, .int (x0)), (2, .int (x1)), (3, .int (x2)), (4, .ref out)]) hx hb dL_shape_15 hl9 (by decide) rfl (fun sl9 hl9 => ?_)
  refine lv_iconst (v := 1) hx hb dL_shape_17 (by decide) ?_
  exact hret _ _ _ _ _ sl9 _ _ () Mz9 rfl rfl rfl (Nat.le_of_ble_eq_true rfl) (Nat.le_of_ble_eq_true rfl) dL_shape_18
set_option maxHeartbeats 4000000 in
set_option maxRecDepth 100000 in
theorem lk_shape_2 (l : Launch) (D : va_G) (T : Nat → ClassId) (ea mi : Nat) (sa : Nat → Nat) (o out : Nat) (f : Nat → Int64) (x0 x1 x2 : Int32) {vs : List Value} {wt : va_W} {rm : Room} (hM : ZB l yX5_shape wsX5_shape rm (zW ea mi sa) D T ((o, .inr (6, vs)) :: wt) [.ref o, .int x0, .int x1, .int x2] "java/lang/IllegalArgumentException") (hrm : rm.cells = 1 ∧ rm.slots = 6) : ZIH l yL_shape wsL_shape (lkR rm 6 1 6) (zX ea mi sa) D T (S := Unit) (ouW out T f :: ((o, .inr (6, vs)) :: wt)) (fun _ => ouW out T f :: ((o, .inr (6, vs)) :: wt)) [.ref o, .int x0, .int x1, .int x2, .ref out] 2 1 6 := by
  refine z_inIHW (cc := cL_shape) (maxL := 6) (hh := [(0, 12, 15, 13), (0, 12, 19, 15)]) (rt := .int) (by decide +kernel) rfl (Nat.le_of_ble_eq_true rfl) ?_
  intro p e s m args below meth c sl9 A Q Z hX htb hnm Mz9 hl9 hret
  have Z : zC p s m args c cL_shape 6 RL wsL_shape D T A := Z
  have hx := Z.1.1
  have hb := Z.1.2.1
  have hts := Z.1.2.2.2.2
  have hl9 : lv_has sl9 6 [(0, .ref o), (1, .int (x0)), (2, .int (x1)), (3, .int (x2)), (4, .ref out)] := hl9
  obtain ⟨is9, hp1, hp2, hp3⟩ := mid_put2 (ouW out T f) ((o, .inr (6, vs)) :: wt)
  refine lv_aload hx hb dL_shape_0 (lv_at hl9 4 rfl) ?_
  refine lv_iconst (v := 0) hx hb dL_shape_2 (by decide) ?_
  refine lv_aload_n hx hb dL_shape_3 rfl (lv_at hl9 0 rfl) ?_
  refine lv_iload_n hx hb dL_shape_4 rfl (lv_at hl9 1 rfl) ?_
  refine lv_iload_n hx hb dL_shape_5 rfl (lv_at hl9 2 rfl) ?_
  refine lv_iload_n hx hb dL_shape_6 rfl (lv_at hl9 3 rfl) ?_
  refine z_callVx (As := [.int (x0), .int (x1), .int (x2)]) (rest := [.int 0, .ref out]) (wc := ((o, .inr (6, vs)) :: wt)) (zW_k ea mi sa) hX.1 Z Mz9 hM (cwV 3 hts gL_shape_X5_shape rfl hrm.1 hrm.2 (by decide +kernel) ⟨Nat.le_refl _, Nat.le_refl _⟩) is9 hp1 hp2 (va_recv Z.2.1 Mz9.1 (ci := 6) (q0 := 1) rfl rfl) rfl hl9.1 (Nat.le_of_ble_eq_true rfl) dL_shape_7 ⟨Nat.le_of_ble_eq_true rfl, Nat.le_of_ble_eq_true rfl⟩ rfl (fun Hp9 lc9 q9 ce Mz9 hcell hv hcl => ?_)
  refine vx_catch (name := "java/lang/IllegalArgumentException") Z.1.2.2.2.1 [(⟨0, 12, 15, 13⟩ : ExceptionTableEntry)] (⟨0, 12, 19, 15⟩ : ExceptionTableEntry) [] htb (List.forall_mem_cons.mpr ⟨Or.inr ⟨by decide, "java/lang/IndexOutOfBoundsException", hts (.classLink RL 13 "java/lang/IndexOutOfBoundsException") (by decide +kernel), hX.2.1⟩, fun _ hz => absurd hz List.not_mem_nil⟩) (by decide) (by decide) (hts (.classLink RL 15 "java/lang/IllegalArgumentException") (by decide +kernel)) ((zWw hX.1 (w := .castable "java/lang/IllegalArgumentException" "java/lang/IllegalArgumentException") (by decide +kernel)).use rfl) hcell hv hcl ?_
  refine lv_astore (lv' := [(5, .ref q9), (0, .ref o), (1, .int (x0)), (2, .int (x1)), (3, .int (x2)), (4, .ref out)]) hx hb dL_shape_19 hl9 (by decide) rfl (fun sl9 hl9 => ?_)
  refine lv_iconst (v := 2) hx hb dL_shape_21 (by decide) ?_
  exact hret _ _ _ _ _ sl9 _ _ () Mz9 rfl rfl rfl (Nat.le_of_ble_eq_true rfl) (Nat.le_of_ble_eq_true rfl) dL_shape_22
