/-! ===== laid by program ===== -/
/-! ===== the house: what a billet is ===== -/
theorem zN_k : zKp zN := ⟨fun _ _ h hN => hN.same h, fun _ _ hW hN => hN.warm hW⟩
theorem zIN_P {l : Launch} {y : MethodName} {ws : List Cond} {rm : Room} {D : va_G} {T : Nat → ClassId} {w w' : va_W} {as : List Value} {rv : Int32} {mc ms : Nat} (h : ZIN l y ws rm D T w w' as rv mc ms) : ZIP l y ws rm zN D T (S := Unit) w (fun _ => w') as rv mc ms := h
theorem zVN_P {l : Launch} {y : MethodName} {ws : List Cond} {rm : Room} {D : va_G} {T : Nat → ClassId} {w w' : va_W} {as : List Value} {mc ms : Nat} (h : ZVN l y ws rm D T w w' as mc ms) : ZVP l y ws rm zN D T (S := Unit) w (fun _ => w') as mc ms := h
set_option maxHeartbeats 4000000 in
set_option maxRecDepth 100000 in
theorem ch_area (l : Launch) (D : va_G) (T : Nat → ClassId) (o : Nat) (ad : Nat → Nat) (lo : Int32) (kb : Int32) (rb n g : Nat) (fb : Nat → Option Nat) (h a q u : Nat) (β α κ τ : Nat → Int32) (i : Nat) (hi : i < g) (hg : g ≤ n) (hn : n ≤ 40000) (hf : fb i = some h) (j : Nat) (hj : j < 8) : ZI l yX5_area wsX5_area (zrm 4 85) D T [(o, .inr (6, hsF ad lo)), (ad 7, .inr (0, [.int (kb), .ref rb, .int (nI (g))])), (rb, .inl (T 3, n, qa fb)), (h, .inr (1, biF a q u β)), (a, .inl (T 0, 8, .inl α)), (q, .inl (T 0, 8, .inl κ)), (u, .inr (5, [.int (τ 0), .int (τ 1), .int (τ 2)]))] [(o, .inr (6, hsF ad lo)), (ad 7, .inr (0, [.int (kb), .ref rb, .int (nI (g))])), (rb, .inl (T 3, n, qa fb)), (h, .inr (1, biF a q u β)), (a, .inl (T 0, 8, .inl α)), (q, .inl (T 0, 8, .inl κ)), (u, .inr (5, [.int (τ 0), .int (τ 1), .int (τ 2)]))] [.ref o, .int (nI (i)), .int (nI (j))] (α j) 0 0 := by
  refine z_inI (cc := cX5_area) (maxL := 4) (rt := .int) (by decide +kernel) rfl (Nat.le_of_ble_eq_true rfl) ?_
  intro p e s m args below meth c sl9 A Q Z hnm Mz9 hl9 hret
  have Z : zC p s m args c cX5_area 4 RX5 wsX5_area D T A := Z
  have hx := Z.1.1
  have hb := Z.1.2.1
  have hts := Z.1.2.2.2.2
  have hin5 : ∀ w ∈ wsX50, w ∈ wsX5_area := by decide +kernel
  have hinL : ∀ w ∈ wsJx4a65c0, w ∈ wsX5_area := by decide +kernel
  have hin0 : ∀ w ∈ wsX00, w ∈ wsX5_area := by decide +kernel
  have L141 := hts (.fieldLink RX5 141 "AnvilHouse$Billet" "areas" "[I") (by decide +kernel)
  have hl9 : lv_has sl9 4 [(0, .ref o), (1, .int (nI (i))), (2, .int (nI (j)))] := hl9
  refine lv_aload_n hx hb dX5_area_0 rfl (lv_at hl9 0 rfl) ?_
  refine lv_iload_n hx hb dX5_area_1 rfl (lv_at hl9 1 rfl) ?_
  refine z_callVr (As := [.int (nI (i))]) (rest := []) (wc := [(o, .inr (6, hsF ad lo)), (ad 7, .inr (0, [.int (kb), .ref rb, .int (nI (g))])), (rb, .inl (T 3, n, qa fb)), (h, .inr (1, biF a q u β))]) Z Mz9 (ch_billetAt l D T o ad lo kb rb n g fb h (biF a q u β) i hi hg hn hf) (cwV 1 hts gX5_area_X5_billetAt rfl rfl rfl (by decide +kernel) ⟨Nat.le_of_ble_eq_true rfl, Nat.le_of_ble_eq_true rfl⟩) [0, 1, 2, 3] rfl (by decide) (fun _ j hj => rfl) (fun _ => Nat.le_refl _) (va_recv Z.2.1 Mz9.1 (ci := 6) (q0 := 0) rfl rfl) rfl hl9.1 (Nat.le_of_ble_eq_true rfl) dX5_area_2 ⟨Nat.le_of_ble_eq_true rfl, Nat.le_of_ble_eq_true rfl⟩ rfl (fun _ Hp9 lc9 Mz9 => ?_)
  have Mz9 : zM D A s.heap [(o, .inr (6, hsF ad lo)), (ad 7, .inr (0, [.int (kb), .ref rb, .int (nI (g))])), (rb, .inl (T 3, n, qa fb)), (h, .inr (1, biF a q u β)), (a, .inl (T 0, 8, .inl α)), (q, .inl (T 0, 8, .inl κ)), (u, .inr (5, [.int (τ 0), .int (τ 1), .int (τ 2)]))] _ _ := Mz9
  refine lv_astore_n (lv' := [(3, .ref h), (0, .ref o), (1, .int (nI (i))), (2, .int (nI (j)))]) hx hb dX5_area_5 rfl hl9 (by decide) rfl (fun sl9 hl9 => ?_)
  refine lv_iload_n hx hb dX5_area_6 rfl (lv_at hl9 3 rfl) ?_
  refine z_callSv (As := [.int (nI (j))]) (rest := []) (wc := []) (wc' := []) Z Mz9 (ch_refuseNoSection l D T (j) hj) (va_cwS 1 hts gX5_area_X5_refuseNoSection rfl rfl rfl (by decide +kernel) ⟨Nat.le_of_ble_eq_true rfl, Nat.le_of_ble_eq_true rfl⟩) [] rfl (by decide) (fun j hj => rfl) (Nat.le_refl _) rfl hl9.1 (Nat.le_of_ble_eq_true rfl) dX5_area_7 ⟨Nat.le_of_ble_eq_true rfl, Nat.le_of_ble_eq_true rfl⟩ rfl (fun Hp9 lc9 Mz9 => ?_)
  have Mz9 : zM D A s.heap [(o, .inr (6, hsF ad lo)), (ad 7, .inr (0, [.int (kb), .ref rb, .int (nI (g))])), (rb, .inl (T 3, n, qa fb)), (h, .inr (1, biF a q u β)), (a, .inl (T 0, 8, .inl α)), (q, .inl (T 0, 8, .inl κ)), (u, .inr (5, [.int (τ 0), .int (τ 1), .int (τ 2)]))] _ _ := Mz9
  refine lv_aload_n hx hb dX5_area_10 rfl (lv_at hl9 0 rfl) ?_
  refine z_getf Z Mz9 hin0 3 rfl rfl 2 (by decide) L141 rfl (v := .ref a) rfl dX5_area_11 ?_
  refine lv_iload_n hx hb dX5_area_14 rfl (lv_at hl9 3 rfl) ?_
  refine z_iald Z Mz9 4 (h0 := a) (n := 8) (f := α) rfl (j := j) (by omega) (by decide) dX5_area_15 ?_
  exact hret _ _ _ _ _ sl9 _ _ Mz9 (rfl) (rfl) (rfl) (Nat.le_of_ble_eq_true rfl) (Nat.le_of_ble_eq_true rfl) dX5_area_16
set_option maxHeartbeats 4000000 in
set_option maxRecDepth 100000 in
theorem ch_area_b (l : Launch) (hfl : l.stackTraces = false) (D : va_G) (T : Nat → ClassId) (ea mi : Nat) (sa : Nat → Nat) (o : Nat) (ad : Nat → Nat) (lo : Int32) (kb : Int32) (rb g : Nat) (v : Int32) (t : Int32) (hv9 : v < 0 ∨ nI g ≤ v) : ZB l yX5_area wsX5_area (zrmc 7 103 1 6) (zW ea mi sa) D T [(o, .inr (6, hsF ad lo)), (ad 7, .inr (0, [.int (kb), .ref rb, .int (nI (g))]))] [.ref o, .int (v), .int (t)] "java/lang/IndexOutOfBoundsException" := by
  refine z_inB (cc := cX5_area) (maxL := 4) (ret := (some .int)) (by decide +kernel) rfl (Nat.le_of_ble_eq_true rfl) ?_
  intro p e s m args below meth c sl9 A hA Z hW Mz9 hl9 hE
  have Z : zC p s m args c cX5_area 4 RX5 wsX5_area D T A := Z
  have hx := Z.1.1
  have hb := Z.1.2.1
  have hts := Z.1.2.2.2.2
  have hin5 : ∀ w ∈ wsX50, w ∈ wsX5_area := by decide +kernel
  have hinL : ∀ w ∈ wsJx4a65c0, w ∈ wsX5_area := by decide +kernel
  have hin0 : ∀ w ∈ wsX00, w ∈ wsX5_area := by decide +kernel
  have L141 := hts (.fieldLink RX5 141 "AnvilHouse$Billet" "areas" "[I") (by decide +kernel)
  have hl9 : lv_has sl9 4 [(0, .ref o), (1, .int (v)), (2, .int (t))] := hl9
  refine lv_aload_n hx hb dX5_area_0 rfl (lv_at hl9 0 rfl) ?_
  refine lv_iload_n hx hb dX5_area_1 rfl (lv_at hl9 1 rfl) ?_
  exact z_callB (As := [.int (v)]) (rest := []) (wc := [(o, .inr (6, hsF ad lo)), (ad 7, .inr (0, [.int (kb), .ref rb, .int (nI (g))]))]) (zW_k ea mi sa) hW Z Mz9 hA hE (ch_billetAt_bad l hfl D T ea mi sa o ad lo kb rb g v hv9) (cwV 1 hts gX5_area_X5_billetAt rfl rfl rfl (by decide +kernel) ⟨Nat.le_of_ble_eq_true rfl, Nat.le_of_ble_eq_true rfl⟩) [0, 1] rfl (by decide) (va_recv Z.2.1 Mz9.1 (ci := 6) (q0 := 0) rfl rfl) rfl hl9.1 (Nat.le_of_ble_eq_true rfl) dX5_area_2 ⟨Nat.le_of_ble_eq_true rfl, Nat.le_of_ble_eq_true rfl⟩ ⟨Nat.le_of_ble_eq_true rfl, Nat.le_of_ble_eq_true rfl⟩ rfl rfl
set_option maxHeartbeats 4000000 in
set_option maxRecDepth 100000 in
theorem ch_area_s (l : Launch) (hfl : l.stackTraces = false) (D : va_G) (T : Nat → ClassId) (ea mi : Nat) (sa : Nat → Nat) (o : Nat) (ad : Nat → Nat) (lo : Int32) (kb : Int32) (rb n g : Nat) (fb : Nat → Option Nat) (h a q u : Nat) (β : Nat → Int32) (i : Nat) (hi : i < g) (hg : g ≤ n) (hn : n ≤ 40000) (hf : fb i = some h) (v : Int32) (hv9 : v < 0 ∨ 8 ≤ v) : ZB l yX5_area wsX5_area (zrmc 7 102 1 6) (zW ea mi sa) D T [(o, .inr (6, hsF ad lo)), (ad 7, .inr (0, [.int (kb), .ref rb, .int (nI (g))])), (rb, .inl (T 3, n, qa fb)), (h, .inr (1, biF a q u β))] [.ref o, .int (nI (i)), .int (v)] "java/lang/IndexOutOfBoundsException" := by
  refine z_inB (cc := cX5_area) (maxL := 4) (ret := (some .int)) (by decide +kernel) rfl (Nat.le_of_ble_eq_true rfl) ?_
  intro p e s m args below meth c sl9 A hA Z hW Mz9 hl9 hE
  have Z : zC p s m args c cX5_area 4 RX5 wsX5_area D T A := Z
  have hx := Z.1.1
  have hb := Z.1.2.1
  have hts := Z.1.2.2.2.2
  have hin5 : ∀ w ∈ wsX50, w ∈ wsX5_area := by decide +kernel
  have hinL : ∀ w ∈ wsJx4a65c0, w ∈ wsX5_area := by decide +kernel
  have hin0 : ∀ w ∈ wsX00, w ∈ wsX5_area := by decide +kernel
  have L141 := hts (.fieldLink RX5 141 "AnvilHouse$Billet" "areas" "[I") (by decide +kernel)
  have hl9 : lv_has sl9 4 [(0, .ref o), (1, .int (nI (i))), (2, .int (v))] := hl9
  refine lv_aload_n hx hb dX5_area_0 rfl (lv_at hl9 0 rfl) ?_
  refine lv_iload_n hx hb dX5_area_1 rfl (lv_at hl9 1 rfl) ?_
  refine z_callVr (As := [.int (nI (i))]) (rest := []) (wc := [(o, .inr (6, hsF ad lo)), (ad 7, .inr (0, [.int (kb), .ref rb, .int (nI (g))])), (rb, .inl (T 3, n, qa fb)), (h, .inr (1, biF a q u β))]) Z Mz9 (ch_billetAt l D T o ad lo kb rb n g fb h (biF a q u β) i hi hg hn hf) (cwV 1 hts gX5_area_X5_billetAt rfl rfl rfl (by decide +kernel) ⟨Nat.le_of_ble_eq_true rfl, Nat.le_of_ble_eq_true rfl⟩) [0, 1, 2, 3] rfl (by decide) (fun _ j hj => rfl) (fun _ => Nat.le_refl _) (va_recv Z.2.1 Mz9.1 (ci := 6) (q0 := 0) rfl rfl) rfl hl9.1 (Nat.le_of_ble_eq_true rfl) dX5_area_2 ⟨Nat.le_of_ble_eq_true rfl, Nat.le_of_ble_eq_true rfl⟩ rfl (fun _ Hp9 lc9 Mz9 => ?_)
  have Mz9 : zM D A s.heap [(o, .inr (6, hsF ad lo)), (ad 7, .inr (0, [.int (kb), .ref rb, .int (nI (g))])), (rb, .inl (T 3, n, qa fb)), (h, .inr (1, biF a q u β))] _ _ := Mz9
  refine lv_astore_n (lv' := [(3, .ref h), (0, .ref o), (1, .int (nI (i))), (2, .int (v))]) hx hb dX5_area_5 rfl hl9 (by decide) rfl (fun sl9 hl9 => ?_)
  refine lv_iload_n hx hb dX5_area_6 rfl (lv_at hl9 3 rfl) ?_
  exact z_callSB (As := [.int (v)]) (rest := []) (wc := []) (zW_k ea mi sa) hW Z Mz9 hA hE (ch_refuseNoSection_bad l hfl D T ea mi sa v hv9) (va_cwS 1 hts gX5_area_X5_refuseNoSection rfl rfl rfl (by decide +kernel) ⟨Nat.le_of_ble_eq_true rfl, Nat.le_of_ble_eq_true rfl⟩) [] rfl (by decide) rfl hl9.1 (Nat.le_of_ble_eq_true rfl) dX5_area_7 ⟨Nat.le_of_ble_eq_true rfl, Nat.le_of_ble_eq_true rfl⟩ ⟨Nat.le_of_ble_eq_true rfl, Nat.le_of_ble_eq_true rfl⟩ rfl rfl
set_option maxHeartbeats 4000000 in
set_option maxRecDepth 100000 in
theorem ch_hardness (l : Launch) (D : va_G) (T : Nat → ClassId) (o : Nat) (ad : Nat → Nat) (lo : Int32) (kb : Int32) (rb n g : Nat) (fb : Nat → Option Nat) (h a q u : Nat) (β α κ τ : Nat → Int32) (i : Nat) (hi : i < g) (hg : g ≤ n) (hn : n ≤ 40000) (hf : fb i = some h) (j : Nat) (hj : j < 8) : ZI l yX5_hardness wsX5_hardness (zrm 4 85) D T [(o, .inr (6, hsF ad lo)), (ad 7, .inr (0, [.int (kb), .ref rb, .int (nI (g))])), (rb, .inl (T 3, n, qa fb)), (h, .inr (1, biF a q u β)), (a, .inl (T 0, 8, .inl α)), (q, .inl (T 0, 8, .inl κ)), (u, .inr (5, [.int (τ 0), .int (τ 1), .int (τ 2)]))] [(o, .inr (6, hsF ad lo)), (ad 7, .inr (0, [.int (kb), .ref rb, .int (nI (g))])), (rb, .inl (T 3, n, qa fb)), (h, .inr (1, biF a q u β)), (a, .inl (T 0, 8, .inl α)), (q, .inl (T 0, 8, .inl κ)), (u, .inr (5, [.int (τ 0), .int (τ 1), .int (τ 2)]))] [.ref o, .int (nI (i)), .int (nI (j))] (if β 14 = -1 then 0 else hrc (κ j) (β 16)) 0 0 := by
  refine z_inI (cc := cX5_hardness) (maxL := 4) (rt := .int) (by decide +kernel) rfl (Nat.le_of_ble_eq_true rfl) ?_
  intro p e s m args below meth c sl9 A Q Z hnm Mz9 hl9 hret
  have Z : zC p s m args c cX5_hardness 4 RX5 wsX5_hardness D T A := Z
  have hx := Z.1.1
  have hb := Z.1.2.1
  have hts := Z.1.2.2.2.2
  have hin5 : ∀ w ∈ wsX50, w ∈ wsX5_hardness := by decide +kernel
  have hinL : ∀ w ∈ wsJx4a65c0, w ∈ wsX5_hardness := by decide +kernel
  have hin0 : ∀ w ∈ wsX00, w ∈ wsX5_hardness := by decide +kernel
  have hl9 : lv_has sl9 4 [(0, .ref o), (1, .int (nI (i))), (2, .int (nI (j)))] := hl9
  refine lv_aload_n hx hb dX5_hardness_0 rfl (lv_at hl9 0 rfl) ?_
  refine lv_iload_n hx hb dX5_hardness_1 rfl (lv_at hl9 1 rfl) ?_
  refine z_callVr (As := [.int (nI (i))]) (rest := []) (wc := [(o, .inr (6, hsF ad lo)), (ad 7, .inr (0, [.int (kb), .ref rb, .int (nI (g))])), (rb, .inl (T 3, n, qa fb)), (h, .inr (1, biF a q u β))]) Z Mz9 (ch_billetAt l D T o ad lo kb rb n g fb h (biF a q u β) i hi hg hn hf) (cwV 1 hts gX5_hardness_X5_billetAt rfl rfl rfl (by decide +kernel) ⟨Nat.le_of_ble_eq_true rfl, Nat.le_of_ble_eq_true rfl⟩) [0, 1, 2, 3] rfl (by decide) (fun _ j hj => rfl) (fun _ => Nat.le_refl _) (va_recv Z.2.1 Mz9.1 (ci := 6) (q0 := 0) rfl rfl) rfl hl9.1 (Nat.le_of_ble_eq_true rfl) dX5_hardness_2 ⟨Nat.le_of_ble_eq_true rfl, Nat.le_of_ble_eq_true rfl⟩ rfl (fun _ Hp9 lc9 Mz9 => ?_)
  have Mz9 : zM D A s.heap [(o, .inr (6, hsF ad lo)), (ad 7, .inr (0, [.int (kb), .ref rb, .int (nI (g))])), (rb, .inl (T 3, n, qa fb)), (h, .inr (1, biF a q u β)), (a, .inl (T 0, 8, .inl α)), (q, .inl (T 0, 8, .inl κ)), (u, .inr (5, [.int (τ 0), .int (τ 1), .int (τ 2)]))] _ _ := Mz9
  refine lv_astore_n (lv' := [(3, .ref h), (0, .ref o), (1, .int (nI (i))), (2, .int (nI (j)))]) hx hb dX5_hardness_5 rfl hl9 (by decide) rfl (fun sl9 hl9 => ?_)
  refine lv_iload_n hx hb dX5_hardness_6 rfl (lv_at hl9 3 rfl) ?_
  refine z_callSv (As := [.int (nI (j))]) (rest := []) (wc := []) (wc' := []) Z Mz9 (ch_refuseNoSection l D T (j) hj) (va_cwS 1 hts gX5_hardness_X5_refuseNoSection rfl rfl rfl (by decide +kernel) ⟨Nat.le_of_ble_eq_true rfl, Nat.le_of_ble_eq_true rfl⟩) [] rfl (by decide) (fun j hj => rfl) (Nat.le_refl _) rfl hl9.1 (Nat.le_of_ble_eq_true rfl) dX5_hardness_7 ⟨Nat.le_of_ble_eq_true rfl, Nat.le_of_ble_eq_true rfl⟩ rfl (fun Hp9 lc9 Mz9 => ?_)
  have Mz9 : zM D A s.heap [(o, .inr (6, hsF ad lo)), (ad 7, .inr (0, [.int (kb), .ref rb, .int (nI (g))])), (rb, .inl (T 3, n, qa fb)), (h, .inr (1, biF a q u β)), (a, .inl (T 0, 8, .inl α)), (q, .inl (T 0, 8, .inl κ)), (u, .inr (5, [.int (τ 0), .int (τ 1), .int (τ 2)]))] _ _ := Mz9
  refine lv_aload_n hx hb dX5_hardness_10 rfl (lv_at hl9 0 rfl) ?_
  refine lv_iload_n hx hb dX5_hardness_11 rfl (lv_at hl9 3 rfl) ?_
  refine z_callVi (As := [.int (nI (j))]) (rest := []) (rv := if β 14 = -1 then 0 else hrc (κ j) (β 16)) (wc := biW h a q u T β α κ τ) (wc' := biW h a q u T β α κ τ) Z Mz9 (cb_hardnessAt l D T h a q u β α κ τ (j) hj) (cwV 1 hts gX5_hardness_X0_hardnessAt rfl rfl rfl (by decide +kernel) ⟨Nat.le_of_ble_eq_true rfl, Nat.le_of_ble_eq_true rfl⟩) [3, 4, 5, 6] rfl (by decide) (fun j hj => rfl) (Nat.le_refl _) (va_recv Z.2.1 Mz9.1 (ci := 1) (q0 := 3) rfl rfl) rfl hl9.1 (Nat.le_of_ble_eq_true rfl) dX5_hardness_12 ⟨Nat.le_of_ble_eq_true rfl, Nat.le_of_ble_eq_true rfl⟩ rfl (fun Hp9 lc9 Mz9 => ?_)
  have Mz9 : zM D A s.heap [(o, .inr (6, hsF ad lo)), (ad 7, .inr (0, [.int (kb), .ref rb, .int (nI (g))])), (rb, .inl (T 3, n, qa fb)), (h, .inr (1, biF a q u β)), (a, .inl (T 0, 8, .inl α)), (q, .inl (T 0, 8, .inl κ)), (u, .inr (5, [.int (τ 0), .int (τ 1), .int (τ 2)]))] _ _ := Mz9
  exact hret _ _ _ _ _ sl9 _ _ Mz9 (rfl) (rfl) (rfl) (Nat.le_of_ble_eq_true rfl) (Nat.le_of_ble_eq_true rfl) dX5_hardness_15
set_option maxHeartbeats 4000000 in
set_option maxRecDepth 100000 in
theorem ch_hardness_b (l : Launch) (hfl : l.stackTraces = false) (D : va_G) (T : Nat → ClassId) (ea mi : Nat) (sa : Nat → Nat) (o : Nat) (ad : Nat → Nat) (lo : Int32) (kb : Int32) (rb g : Nat) (v : Int32) (t : Int32) (hv9 : v < 0 ∨ nI g ≤ v) : ZB l yX5_hardness wsX5_hardness (zrmc 7 103 1 6) (zW ea mi sa) D T [(o, .inr (6, hsF ad lo)), (ad 7, .inr (0, [.int (kb), .ref rb, .int (nI (g))]))] [.ref o, .int (v), .int (t)] "java/lang/IndexOutOfBoundsException" := by
  refine z_inB (cc := cX5_hardness) (maxL := 4) (ret := (some .int)) (by decide +kernel) rfl (Nat.le_of_ble_eq_true rfl) ?_
  intro p e s m args below meth c sl9 A hA Z hW Mz9 hl9 hE
  have Z : zC p s m args c cX5_hardness 4 RX5 wsX5_hardness D T A := Z
  have hx := Z.1.1
  have hb := Z.1.2.1
  have hts := Z.1.2.2.2.2
  have hin5 : ∀ w ∈ wsX50, w ∈ wsX5_hardness := by decide +kernel
  have hinL : ∀ w ∈ wsJx4a65c0, w ∈ wsX5_hardness := by decide +kernel
  have hin0 : ∀ w ∈ wsX00, w ∈ wsX5_hardness := by decide +kernel
  have hl9 : lv_has sl9 4 [(0, .ref o), (1, .int (v)), (2, .int (t))] := hl9
  refine lv_aload_n hx hb dX5_hardness_0 rfl (lv_at hl9 0 rfl) ?_
  refine lv_iload_n hx hb dX5_hardness_1 rfl (lv_at hl9 1 rfl) ?_
  exact z_callB (As := [.int (v)]) (rest := []) (wc := [(o, .inr (6, hsF ad lo)), (ad 7, .inr (0, [.int (kb), .ref rb, .int (nI (g))]))]) (zW_k ea mi sa) hW Z Mz9 hA hE (ch_billetAt_bad l hfl D T ea mi sa o ad lo kb rb g v hv9) (cwV 1 hts gX5_hardness_X5_billetAt rfl rfl rfl (by decide +kernel) ⟨Nat.le_of_ble_eq_true rfl, Nat.le_of_ble_eq_true rfl⟩) [0, 1] rfl (by decide) (va_recv Z.2.1 Mz9.1 (ci := 6) (q0 := 0) rfl rfl) rfl hl9.1 (Nat.le_of_ble_eq_true rfl) dX5_hardness_2 ⟨Nat.le_of_ble_eq_true rfl, Nat.le_of_ble_eq_true rfl⟩ ⟨Nat.le_of_ble_eq_true rfl, Nat.le_of_ble_eq_true rfl⟩ rfl rfl
set_option maxHeartbeats 4000000 in
set_option maxRecDepth 100000 in
theorem ch_hardness_s (l : Launch) (hfl : l.stackTraces = false) (D : va_G) (T : Nat → ClassId) (ea mi : Nat) (sa : Nat → Nat) (o : Nat) (ad : Nat → Nat) (lo : Int32) (kb : Int32) (rb n g : Nat) (fb : Nat → Option Nat) (h a q u : Nat) (β : Nat → Int32) (i : Nat) (hi : i < g) (hg : g ≤ n) (hn : n ≤ 40000) (hf : fb i = some h) (v : Int32) (hv9 : v < 0 ∨ 8 ≤ v) : ZB l yX5_hardness wsX5_hardness (zrmc 7 102 1 6) (zW ea mi sa) D T [(o, .inr (6, hsF ad lo)), (ad 7, .inr (0, [.int (kb), .ref rb, .int (nI (g))])), (rb, .inl (T 3, n, qa fb)), (h, .inr (1, biF a q u β))] [.ref o, .int (nI (i)), .int (v)] "java/lang/IndexOutOfBoundsException" := by
  refine z_inB (cc := cX5_hardness) (maxL := 4) (ret := (some .int)) (by decide +kernel) rfl (Nat.le_of_ble_eq_true rfl) ?_
  intro p e s m args below meth c sl9 A hA Z hW Mz9 hl9 hE
  have Z : zC p s m args c cX5_hardness 4 RX5 wsX5_hardness D T A := Z
  have hx := Z.1.1
  have hb := Z.1.2.1
  have hts := Z.1.2.2.2.2
  have hin5 : ∀ w ∈ wsX50, w ∈ wsX5_hardness := by decide +kernel
  have hinL : ∀ w ∈ wsJx4a65c0, w ∈ wsX5_hardness := by decide +kernel
  have hin0 : ∀ w ∈ wsX00, w ∈ wsX5_hardness := by decide +kernel
  have hl9 : lv_has sl9 4 [(0, .ref o), (1, .int (nI (i))), (2, .int (v))] := hl9
  refine lv_aload_n hx hb dX5_hardness_0 rfl (lv_at hl9 0 rfl) ?_
  refine lv_iload_n hx hb dX5_hardness_1 rfl (lv_at hl9 1 rfl) ?_
  refine z_callVr (As := [.int (nI (i))]) (rest := []) (wc := [(o, .inr (6, hsF ad lo)), (ad 7, .inr (0, [.int (kb), .ref rb, .int (nI (g))])), (rb, .inl (T 3, n, qa fb)), (h, .inr (1, biF a q u β))]) Z Mz9 (ch_billetAt l D T o ad lo kb rb n g fb h (biF a q u β) i hi hg hn hf) (cwV 1 hts gX5_hardness_X5_billetAt rfl rfl rfl (by decide +kernel) ⟨Nat.le_of_ble_eq_true rfl, Nat.le_of_ble_eq_true rfl⟩) [0, 1, 2, 3] rfl (by decide) (fun _ j hj => rfl) (fun _ => Nat.le_refl _) (va_recv Z.2.1 Mz9.1 (ci := 6) (q0 := 0) rfl rfl) rfl hl9.1 (Nat.le_of_ble_eq_true rfl) dX5_hardness_2 ⟨Nat.le_of_ble_eq_true rfl, Nat.le_of_ble_eq_true rfl⟩ rfl (fun _ Hp9 lc9 Mz9 => ?_)
  have Mz9 : zM D A s.heap [(o, .inr (6, hsF ad lo)), (ad 7, .inr (0, [.int (kb), .ref rb, .int (nI (g))])), (rb, .inl (T 3, n, qa fb)), (h, .inr (1, biF a q u β))] _ _ := Mz9
  refine lv_astore_n (lv' := [(3, .ref h), (0, .ref o), (1, .int (nI (i))), (2, .int (v))]) hx hb dX5_hardness_5 rfl hl9 (by decide) rfl (fun sl9 hl9 => ?_)
  refine lv_iload_n hx hb dX5_hardness_6 rfl (lv_at hl9 3 rfl) ?_
  exact z_callSB (As := [.int (v)]) (rest := []) (wc := []) (zW_k ea mi sa) hW Z Mz9 hA hE (ch_refuseNoSection_bad l hfl D T ea mi sa v hv9) (va_cwS 1 hts gX5_hardness_X5_refuseNoSection rfl rfl rfl (by decide +kernel) ⟨Nat.le_of_ble_eq_true rfl, Nat.le_of_ble_eq_true rfl⟩) [] rfl (by decide) rfl hl9.1 (Nat.le_of_ble_eq_true rfl) dX5_hardness_7 ⟨Nat.le_of_ble_eq_true rfl, Nat.le_of_ble_eq_true rfl⟩ ⟨Nat.le_of_ble_eq_true rfl, Nat.le_of_ble_eq_true rfl⟩ rfl rfl
set_option maxHeartbeats 4000000 in
set_option maxRecDepth 100000 in
theorem ch_balances (l : Launch) (D : va_G) (T : Nat → ClassId) (o : Nat) (ad : Nat → Nat) (lo : Int32) (kb : Int32) (rb n g : Nat) (fb : Nat → Option Nat) (h a q u : Nat) (β α κ τ : Nat → Int32) (i : Nat) (hi : i < g) (hg : g ≤ n) (hn : n ≤ 40000) (hf : fb i = some h) : ZI l yX5_balances wsX5_balances (zrm 4 85) D T [(o, .inr (6, hsF ad lo)), (ad 7, .inr (0, [.int (kb), .ref rb, .int (nI (g))])), (rb, .inl (T 3, n, qa fb)), (h, .inr (1, biF a q u β)), (a, .inl (T 0, 8, .inl α)), (q, .inl (T 0, 8, .inl κ)), (u, .inr (5, [.int (τ 0), .int (τ 1), .int (τ 2)]))] [(o, .inr (6, hsF ad lo)), (ad 7, .inr (0, [.int (kb), .ref rb, .int (nI (g))])), (rb, .inl (T 3, n, qa fb)), (h, .inr (1, biF a q u β)), (a, .inl (T 0, 8, .inl α)), (q, .inl (T 0, 8, .inl κ)), (u, .inr (5, [.int (τ 0), .int (τ 1), .int (τ 2)]))] [.ref o, .int (nI (i))] (if VO α 0 = β 3 - β 4 - β 5 - β 6 then 1 else 0) 0 0 := by
  refine z_inI (cc := cX5_balances) (maxL := 3) (rt := .boolean) (by decide +kernel) rfl (Nat.le_of_ble_eq_true rfl) ?_
  intro p e s m args below meth c sl9 A Q Z hnm Mz9 hl9 hret
  have Z : zC p s m args c cX5_balances 3 RX5 wsX5_balances D T A := Z
  have hx := Z.1.1
  have hb := Z.1.2.1
  have hts := Z.1.2.2.2.2
  have hin5 : ∀ w ∈ wsX50, w ∈ wsX5_balances := by decide +kernel
  have hinL : ∀ w ∈ wsJx4a65c0, w ∈ wsX5_balances := by decide +kernel
  have hin0 : ∀ w ∈ wsX00, w ∈ wsX5_balances := by decide +kernel
  have L144 := hts (.fieldLink RX5 144 "AnvilHouse$Billet" "firstVolume" "I") (by decide +kernel)
  have L147 := hts (.fieldLink RX5 147 "AnvilHouse$Billet" "scale" "I") (by decide +kernel)
  have L150 := hts (.fieldLink RX5 150 "AnvilHouse$Billet" "flash" "I") (by decide +kernel)
  have L153 := hts (.fieldLink RX5 153 "AnvilHouse$Billet" "cutOff" "I") (by decide +kernel)
  have hl9 : lv_has sl9 3 [(0, .ref o), (1, .int (nI (i)))] := hl9
  refine lv_aload_n hx hb dX5_balances_0 rfl (lv_at hl9 0 rfl) ?_
  refine lv_iload_n hx hb dX5_balances_1 rfl (lv_at hl9 1 rfl) ?_
  refine z_callVr (As := [.int (nI (i))]) (rest := []) (wc := [(o, .inr (6, hsF ad lo)), (ad 7, .inr (0, [.int (kb), .ref rb, .int (nI (g))])), (rb, .inl (T 3, n, qa fb)), (h, .inr (1, biF a q u β))]) Z Mz9 (ch_billetAt l D T o ad lo kb rb n g fb h (biF a q u β) i hi hg hn hf) (cwV 1 hts gX5_balances_X5_billetAt rfl rfl rfl (by decide +kernel) ⟨Nat.le_of_ble_eq_true rfl, Nat.le_of_ble_eq_true rfl⟩) [0, 1, 2, 3] rfl (by decide) (fun _ j hj => rfl) (fun _ => Nat.le_refl _) (va_recv Z.2.1 Mz9.1 (ci := 6) (q0 := 0) rfl rfl) rfl hl9.1 (Nat.le_of_ble_eq_true rfl) dX5_balances_2 ⟨Nat.le_of_ble_eq_true rfl, Nat.le_of_ble_eq_true rfl⟩ rfl (fun _ Hp9 lc9 Mz9 => ?_)
  have Mz9 : zM D A s.heap [(o, .inr (6, hsF ad lo)), (ad 7, .inr (0, [.int (kb), .ref rb, .int (nI (g))])), (rb, .inl (T 3, n, qa fb)), (h, .inr (1, biF a q u β)), (a, .inl (T 0, 8, .inl α)), (q, .inl (T 0, 8, .inl κ)), (u, .inr (5, [.int (τ 0), .int (τ 1), .int (τ 2)]))] _ _ := Mz9
  refine lv_astore_n (lv' := [(2, .ref h), (0, .ref o), (1, .int (nI (i)))]) hx hb dX5_balances_5 rfl hl9 (by decide) rfl (fun sl9 hl9 => ?_)
  refine lv_aload_n hx hb dX5_balances_6 rfl (lv_at hl9 0 rfl) ?_
  refine z_callVi (As := []) (rest := []) (rv := VO α 0) (wc := biW h a q u T β α κ τ) (wc' := biW h a q u T β α κ τ) Z Mz9 (cb_volume l D T h a q u β α κ τ) (cwV 0 hts gX5_balances_X0_volume rfl rfl rfl (by decide +kernel) ⟨Nat.le_of_ble_eq_true rfl, Nat.le_of_ble_eq_true rfl⟩) [3, 4, 5, 6] rfl (by decide) (fun j hj => rfl) (Nat.le_refl _) (va_recv Z.2.1 Mz9.1 (ci := 1) (q0 := 3) rfl rfl) rfl hl9.1 (Nat.le_of_ble_eq_true rfl) dX5_balances_7 ⟨Nat.le_of_ble_eq_true rfl, Nat.le_of_ble_eq_true rfl⟩ rfl (fun Hp9 lc9 Mz9 => ?_)
  have Mz9 : zM D A s.heap [(o, .inr (6, hsF ad lo)), (ad 7, .inr (0, [.int (kb), .ref rb, .int (nI (g))])), (rb, .inl (T 3, n, qa fb)), (h, .inr (1, biF a q u β)), (a, .inl (T 0, 8, .inl α)), (q, .inl (T 0, 8, .inl κ)), (u, .inr (5, [.int (τ 0), .int (τ 1), .int (τ 2)]))] _ _ := Mz9
  refine lv_aload_n hx hb dX5_balances_10 rfl (lv_at hl9 0 rfl) ?_
  refine z_getf Z Mz9 hin0 3 rfl rfl 3 (by decide) L144 rfl (v := .int (β 3)) rfl dX5_balances_11 ?_
  refine lv_aload_n hx hb dX5_balances_14 rfl (lv_at hl9 0 rfl) ?_
  refine z_getf Z Mz9 hin0 3 rfl rfl 4 (by decide) L147 rfl (v := .int (β 4)) rfl dX5_balances_15 ?_
  refine lv_isub hx hb dX5_balances_18 ?_
  refine lv_aload_n hx hb dX5_balances_19 rfl (lv_at hl9 0 rfl) ?_
  refine z_getf Z Mz9 hin0 3 rfl rfl 5 (by decide) L150 rfl (v := .int (β 5)) rfl dX5_balances_20 ?_
  refine lv_isub hx hb dX5_balances_23 ?_
  refine lv_aload_n hx hb dX5_balances_24 rfl (lv_at hl9 0 rfl) ?_
  refine z_getf Z Mz9 hin0 3 rfl rfl 6 (by decide) L153 rfl (v := .int (β 6)) rfl dX5_balances_25 ?_
  refine lv_isub hx hb dX5_balances_28 ?_
  refine lv_icmp_ne (tgt := 36) hx hb dX5_balances_29 (by decide) (fun c_1 => ?_) (fun c_1 => ?_)
  ·
    refine lv_iconst (v := 0) hx hb dX5_balances_36 (by decide) ?_
    exact hret _ _ _ _ _ sl9 _ _ Mz9 (rfl) (by simp only [if_neg c_1]) (rfl) (Nat.le_of_ble_eq_true rfl) (Nat.le_of_ble_eq_true rfl) dX5_balances_37
  ·
    refine lv_iconst (v := 1) hx hb dX5_balances_32 (by decide) ?_
    refine lv_goto (tgt := 37) hx hb dX5_balances_33 (by decide) ?_
    exact hret _ _ _ _ _ sl9 _ _ Mz9 (rfl) (by simp only [if_pos c_1]) (rfl) (Nat.le_of_ble_eq_true rfl) (Nat.le_of_ble_eq_true rfl) dX5_balances_37
set_option maxHeartbeats 4000000 in
set_option maxRecDepth 100000 in
theorem ch_balances_b (l : Launch) (hfl : l.stackTraces = false) (D : va_G) (T : Nat → ClassId) (ea mi : Nat) (sa : Nat → Nat) (o : Nat) (ad : Nat → Nat) (lo : Int32) (kb : Int32) (rb g : Nat) (v : Int32) (hv9 : v < 0 ∨ nI g ≤ v) : ZB l yX5_balances wsX5_balances (zrmc 7 103 1 6) (zW ea mi sa) D T [(o, .inr (6, hsF ad lo)), (ad 7, .inr (0, [.int (kb), .ref rb, .int (nI (g))]))] [.ref o, .int (v)] "java/lang/IndexOutOfBoundsException" := by
  refine z_inB (cc := cX5_balances) (maxL := 3) (ret := (some .boolean)) (by decide +kernel) rfl (Nat.le_of_ble_eq_true rfl) ?_
  intro p e s m args below meth c sl9 A hA Z hW Mz9 hl9 hE
  have Z : zC p s m args c cX5_balances 3 RX5 wsX5_balances D T A := Z
  have hx := Z.1.1
  have hb := Z.1.2.1
  have hts := Z.1.2.2.2.2
  have hin5 : ∀ w ∈ wsX50, w ∈ wsX5_balances := by decide +kernel
  have hinL : ∀ w ∈ wsJx4a65c0, w ∈ wsX5_balances := by decide +kernel
  have hin0 : ∀ w ∈ wsX00, w ∈ wsX5_balances := by decide +kernel
  have L144 := hts (.fieldLink RX5 144 "AnvilHouse$Billet" "firstVolume" "I") (by decide +kernel)
  have L147 := hts (.fieldLink RX5 147 "AnvilHouse$Billet" "scale" "I") (by decide +kernel)
  have L150 := hts (.fieldLink RX5 150 "AnvilHouse$Billet" "flash" "I") (by decide +kernel)
  have L153 := hts (.fieldLink RX5 153 "AnvilHouse$Billet" "cutOff" "I") (by decide +kernel)
  have hl9 : lv_has sl9 3 [(0, .ref o), (1, .int (v))] := hl9
  refine lv_aload_n hx hb dX5_balances_0 rfl (lv_at hl9 0 rfl) ?_
  refine lv_iload_n hx hb dX5_balances_1 rfl (lv_at hl9 1 rfl) ?_
  exact z_callB (As := [.int (v)]) (rest := []) (wc := [(o, .inr (6, hsF ad lo)), (ad 7, .inr (0, [.int (kb), .ref rb, .int (nI (g))]))]) (zW_k ea mi sa) hW Z Mz9 hA hE (ch_billetAt_bad l hfl D T ea mi sa o ad lo kb rb g v hv9) (cwV 1 hts gX5_balances_X5_billetAt rfl rfl rfl (by decide +kernel) ⟨Nat.le_of_ble_eq_true rfl, Nat.le_of_ble_eq_true rfl⟩) [0, 1] rfl (by decide) (va_recv Z.2.1 Mz9.1 (ci := 6) (q0 := 0) rfl rfl) rfl hl9.1 (Nat.le_of_ble_eq_true rfl) dX5_balances_2 ⟨Nat.le_of_ble_eq_true rfl, Nat.le_of_ble_eq_true rfl⟩ ⟨Nat.le_of_ble_eq_true rfl, Nat.le_of_ble_eq_true rfl⟩ rfl rfl
set_option maxHeartbeats 4000000 in
set_option maxRecDepth 100000 in
theorem ch_billetIs_0 (l : Launch) (D : va_G) (T : Nat → ClassId) (o : Nat) (ad : Nat → Nat) (lo : Int32) (kb : Int32) (rb n g : Nat) (fb : Nat → Option Nat) (h a q u : Nat) (β α κ τ : Nat → Int32) (i : Nat) (hi : i < g) (hg : g ≤ n) (hn : n ≤ 40000) (hf : fb i = some h) : ZI l yX5_billetIs wsX5_billetIs (zrm 4 85) D T [(o, .inr (6, hsF ad lo)), (ad 7, .inr (0, [.int (kb), .ref rb, .int (nI (g))])), (rb, .inl (T 3, n, qa fb)), (h, .inr (1, biF a q u β)), (a, .inl (T 0, 8, .inl α)), (q, .inl (T 0, 8, .inl κ)), (u, .inr (5, [.int (τ 0), .int (τ 1), .int (τ 2)]))] [(o, .inr (6, hsF ad lo)), (ad 7, .inr (0, [.int (kb), .ref rb, .int (nI (g))])), (rb, .inl (T 3, n, qa fb)), (h, .inr (1, biF a q u β)), (a, .inl (T 0, 8, .inl α)), (q, .inl (T 0, 8, .inl κ)), (u, .inr (5, [.int (τ 0), .int (τ 1), .int (τ 2)]))] [.ref o, .int (nI (i)), .int 0] (β 7) 0 0 := by
  refine z_inI (cc := cX5_billetIs) (maxL := 4) (rt := .int) (by decide +kernel) rfl (Nat.le_of_ble_eq_true rfl) ?_
  intro p e s m args below meth c sl9 A Q Z hnm Mz9 hl9 hret
  have Z : zC p s m args c cX5_billetIs 4 RX5 wsX5_billetIs D T A := Z
  have hx := Z.1.1
  have hb := Z.1.2.1
  have hts := Z.1.2.2.2.2
  have hin5 : ∀ w ∈ wsX50, w ∈ wsX5_billetIs := by decide +kernel
  have hinL : ∀ w ∈ wsJx4a65c0, w ∈ wsX5_billetIs := by decide +kernel
  have hin0 : ∀ w ∈ wsX00, w ∈ wsX5_billetIs := by decide +kernel
  have L107 := hts (.fieldLink RX5 107 "AnvilHouse$Billet" "skin" "I") (by decide +kernel)
  have L110 := hts (.fieldLink RX5 110 "AnvilHouse$Billet" "core" "I") (by decide +kernel)
  have L116 := hts (.fieldLink RX5 116 "AnvilHouse$Billet" "heats" "I") (by decide +kernel)
  have L119 := hts (.fieldLink RX5 119 "AnvilHouse$Billet" "grain" "I") (by decide +kernel)
  have L122 := hts (.fieldLink RX5 122 "AnvilHouse$Billet" "laps" "I") (by decide +kernel)
  have L125 := hts (.fieldLink RX5 125 "AnvilHouse$Billet" "cracked" "Z") (by decide +kernel)
  have L129 := hts (.fieldLink RX5 129 "AnvilHouse$Billet" "layers" "I") (by decide +kernel)
  have L132 := hts (.fieldLink RX5 132 "AnvilHouse$Billet" "load" "I") (by decide +kernel)
  have hl9 : lv_has sl9 4 [(0, .ref o), (1, .int (nI (i))), (2, .int 0)] := hl9
  refine lv_aload_n hx hb dX5_billetIs_0 rfl (lv_at hl9 0 rfl) ?_
  refine lv_iload_n hx hb dX5_billetIs_1 rfl (lv_at hl9 1 rfl) ?_
  refine z_callVr (As := [.int (nI (i))]) (rest := []) (wc := [(o, .inr (6, hsF ad lo)), (ad 7, .inr (0, [.int (kb), .ref rb, .int (nI (g))])), (rb, .inl (T 3, n, qa fb)), (h, .inr (1, biF a q u β))]) Z Mz9 (ch_billetAt l D T o ad lo kb rb n g fb h (biF a q u β) i hi hg hn hf) (cwV 1 hts gX5_billetIs_X5_billetAt rfl rfl rfl (by decide +kernel) ⟨Nat.le_of_ble_eq_true rfl, Nat.le_of_ble_eq_true rfl⟩) [0, 1, 2, 3] rfl (by decide) (fun _ j hj => rfl) (fun _ => Nat.le_refl _) (va_recv Z.2.1 Mz9.1 (ci := 6) (q0 := 0) rfl rfl) rfl hl9.1 (Nat.le_of_ble_eq_true rfl) dX5_billetIs_2 ⟨Nat.le_of_ble_eq_true rfl, Nat.le_of_ble_eq_true rfl⟩ rfl (fun _ Hp9 lc9 Mz9 => ?_)
  have Mz9 : zM D A s.heap [(o, .inr (6, hsF ad lo)), (ad 7, .inr (0, [.int (kb), .ref rb, .int (nI (g))])), (rb, .inl (T 3, n, qa fb)), (h, .inr (1, biF a q u β)), (a, .inl (T 0, 8, .inl α)), (q, .inl (T 0, 8, .inl κ)), (u, .inr (5, [.int (τ 0), .int (τ 1), .int (τ 2)]))] _ _ := Mz9
  refine lv_astore_n (lv' := [(3, .ref h), (0, .ref o), (1, .int (nI (i))), (2, .int 0)]) hx hb dX5_billetIs_5 rfl hl9 (by decide) rfl (fun sl9 hl9 => ?_)
  refine lv_iload_n hx hb dX5_billetIs_6 rfl (lv_at hl9 3 rfl) ?_
  refine lv_tableIn (off := 49) (tgt := 56) hx hb dX5_billetIs_7 (by decide) (by decide) (by decide) (by decide) ?_
  refine lv_aload_n hx hb dX5_billetIs_56 rfl (lv_at hl9 0 rfl) ?_
  refine z_getf Z Mz9 hin0 3 rfl rfl 7 (by decide) L107 rfl (v := .int (β 7)) rfl dX5_billetIs_57 ?_
  exact hret _ _ _ _ _ sl9 _ _ Mz9 (rfl) (rfl) (rfl) (Nat.le_of_ble_eq_true rfl) (Nat.le_of_ble_eq_true rfl) dX5_billetIs_60
set_option maxHeartbeats 4000000 in
set_option maxRecDepth 100000 in
theorem ch_billetIs_1 (l : Launch) (D : va_G) (T : Nat → ClassId) (o : Nat) (ad : Nat → Nat) (lo : Int32) (kb : Int32) (rb n g : Nat) (fb : Nat → Option Nat) (h a q u : Nat) (β α κ τ : Nat → Int32) (i : Nat) (hi : i < g) (hg : g ≤ n) (hn : n ≤ 40000) (hf : fb i = some h) : ZI l yX5_billetIs wsX5_billetIs (zrm 4 85) D T [(o, .inr (6, hsF ad lo)), (ad 7, .inr (0, [.int (kb), .ref rb, .int (nI (g))])), (rb, .inl (T 3, n, qa fb)), (h, .inr (1, biF a q u β)), (a, .inl (T 0, 8, .inl α)), (q, .inl (T 0, 8, .inl κ)), (u, .inr (5, [.int (τ 0), .int (τ 1), .int (τ 2)]))] [(o, .inr (6, hsF ad lo)), (ad 7, .inr (0, [.int (kb), .ref rb, .int (nI (g))])), (rb, .inl (T 3, n, qa fb)), (h, .inr (1, biF a q u β)), (a, .inl (T 0, 8, .inl α)), (q, .inl (T 0, 8, .inl κ)), (u, .inr (5, [.int (τ 0), .int (τ 1), .int (τ 2)]))] [.ref o, .int (nI (i)), .int 1] (β 8) 0 0 := by
  refine z_inI (cc := cX5_billetIs) (maxL := 4) (rt := .int) (by decide +kernel) rfl (Nat.le_of_ble_eq_true rfl) ?_
  intro p e s m args below meth c sl9 A Q Z hnm Mz9 hl9 hret
  have Z : zC p s m args c cX5_billetIs 4 RX5 wsX5_billetIs D T A := Z
  have hx := Z.1.1
  have hb := Z.1.2.1
  have hts := Z.1.2.2.2.2
  have hin5 : ∀ w ∈ wsX50, w ∈ wsX5_billetIs := by decide +kernel
  have hinL : ∀ w ∈ wsJx4a65c0, w ∈ wsX5_billetIs := by decide +kernel
  have hin0 : ∀ w ∈ wsX00, w ∈ wsX5_billetIs := by decide +kernel
  have L107 := hts (.fieldLink RX5 107 "AnvilHouse$Billet" "skin" "I") (by decide +kernel)
  have L110 := hts (.fieldLink RX5 110 "AnvilHouse$Billet" "core" "I") (by decide +kernel)
  have L116 := hts (.fieldLink RX5 116 "AnvilHouse$Billet" "heats" "I") (by decide +kernel)
  have L119 := hts (.fieldLink RX5 119 "AnvilHouse$Billet" "grain" "I") (by decide +kernel)
  have L122 := hts (.fieldLink RX5 122 "AnvilHouse$Billet" "laps" "I") (by decide +kernel)
  have L125 := hts (.fieldLink RX5 125 "AnvilHouse$Billet" "cracked" "Z") (by decide +kernel)
  have L129 := hts (.fieldLink RX5 129 "AnvilHouse$Billet" "layers" "I") (by decide +kernel)
  have L132 := hts (.fieldLink RX5 132 "AnvilHouse$Billet" "load" "I") (by decide +kernel)
  have hl9 : lv_has sl9 4 [(0, .ref o), (1, .int (nI (i))), (2, .int 1)] := hl9
  refine lv_aload_n hx hb dX5_billetIs_0 rfl (lv_at hl9 0 rfl) ?_
  refine lv_iload_n hx hb dX5_billetIs_1 rfl (lv_at hl9 1 rfl) ?_
  refine z_callVr (As := [.int (nI (i))]) (rest := []) (wc := [(o, .inr (6, hsF ad lo)), (ad 7, .inr (0, [.int (kb), .ref rb, .int (nI (g))])), (rb, .inl (T 3, n, qa fb)), (h, .inr (1, biF a q u β))]) Z Mz9 (ch_billetAt l D T o ad lo kb rb n g fb h (biF a q u β) i hi hg hn hf) (cwV 1 hts gX5_billetIs_X5_billetAt rfl rfl rfl (by decide +kernel) ⟨Nat.le_of_ble_eq_true rfl, Nat.le_of_ble_eq_true rfl⟩) [0, 1, 2, 3] rfl (by decide) (fun _ j hj => rfl) (fun _ => Nat.le_refl _) (va_recv Z.2.1 Mz9.1 (ci := 6) (q0 := 0) rfl rfl) rfl hl9.1 (Nat.le_of_ble_eq_true rfl) dX5_billetIs_2 ⟨Nat.le_of_ble_eq_true rfl, Nat.le_of_ble_eq_true rfl⟩ rfl (fun _ Hp9 lc9 Mz9 => ?_)
  have Mz9 : zM D A s.heap [(o, .inr (6, hsF ad lo)), (ad 7, .inr (0, [.int (kb), .ref rb, .int (nI (g))])), (rb, .inl (T 3, n, qa fb)), (h, .inr (1, biF a q u β)), (a, .inl (T 0, 8, .inl α)), (q, .inl (T 0, 8, .inl κ)), (u, .inr (5, [.int (τ 0), .int (τ 1), .int (τ 2)]))] _ _ := Mz9
  refine lv_astore_n (lv' := [(3, .ref h), (0, .ref o), (1, .int (nI (i))), (2, .int 1)]) hx hb dX5_billetIs_5 rfl hl9 (by decide) rfl (fun sl9 hl9 => ?_)
  refine lv_iload_n hx hb dX5_billetIs_6 rfl (lv_at hl9 3 rfl) ?_
  refine lv_tableIn (off := 54) (tgt := 61) hx hb dX5_billetIs_7 (by decide) (by decide) (by decide) (by decide) ?_
  refine lv_aload_n hx hb dX5_billetIs_61 rfl (lv_at hl9 0 rfl) ?_
  refine z_getf Z Mz9 hin0 3 rfl rfl 8 (by decide) L110 rfl (v := .int (β 8)) rfl dX5_billetIs_62 ?_
  exact hret _ _ _ _ _ sl9 _ _ Mz9 (rfl) (rfl) (rfl) (Nat.le_of_ble_eq_true rfl) (Nat.le_of_ble_eq_true rfl) dX5_billetIs_65
set_option maxHeartbeats 4000000 in
set_option maxRecDepth 100000 in
theorem ch_billetIs_2 (l : Launch) (D : va_G) (T : Nat → ClassId) (o : Nat) (ad : Nat → Nat) (lo : Int32) (kb : Int32) (rb n g : Nat) (fb : Nat → Option Nat) (h a q u : Nat) (β α κ τ : Nat → Int32) (i : Nat) (hi : i < g) (hg : g ≤ n) (hn : n ≤ 40000) (hf : fb i = some h) : ZI l yX5_billetIs wsX5_billetIs (zrm 4 85) D T [(o, .inr (6, hsF ad lo)), (ad 7, .inr (0, [.int (kb), .ref rb, .int (nI (g))])), (rb, .inl (T 3, n, qa fb)), (h, .inr (1, biF a q u β)), (a, .inl (T 0, 8, .inl α)), (q, .inl (T 0, 8, .inl κ)), (u, .inr (5, [.int (τ 0), .int (τ 1), .int (τ 2)]))] [(o, .inr (6, hsF ad lo)), (ad 7, .inr (0, [.int (kb), .ref rb, .int (nI (g))])), (rb, .inl (T 3, n, qa fb)), (h, .inr (1, biF a q u β)), (a, .inl (T 0, 8, .inl α)), (q, .inl (T 0, 8, .inl κ)), (u, .inr (5, [.int (τ 0), .int (τ 1), .int (τ 2)]))] [.ref o, .int (nI (i)), .int 2] (VO α 0) 0 0 := by
  refine z_inI (cc := cX5_billetIs) (maxL := 4) (rt := .int) (by decide +kernel) rfl (Nat.le_of_ble_eq_true rfl) ?_
  intro p e s m args below meth c sl9 A Q Z hnm Mz9 hl9 hret
  have Z : zC p s m args c cX5_billetIs 4 RX5 wsX5_billetIs D T A := Z
  have hx := Z.1.1
  have hb := Z.1.2.1
  have hts := Z.1.2.2.2.2
  have hin5 : ∀ w ∈ wsX50, w ∈ wsX5_billetIs := by decide +kernel
  have hinL : ∀ w ∈ wsJx4a65c0, w ∈ wsX5_billetIs := by decide +kernel
  have hin0 : ∀ w ∈ wsX00, w ∈ wsX5_billetIs := by decide +kernel
  have L107 := hts (.fieldLink RX5 107 "AnvilHouse$Billet" "skin" "I") (by decide +kernel)
  have L110 := hts (.fieldLink RX5 110 "AnvilHouse$Billet" "core" "I") (by decide +kernel)
  have L116 := hts (.fieldLink RX5 116 "AnvilHouse$Billet" "heats" "I") (by decide +kernel)
  have L119 := hts (.fieldLink RX5 119 "AnvilHouse$Billet" "grain" "I") (by decide +kernel)
  have L122 := hts (.fieldLink RX5 122 "AnvilHouse$Billet" "laps" "I") (by decide +kernel)
  have L125 := hts (.fieldLink RX5 125 "AnvilHouse$Billet" "cracked" "Z") (by decide +kernel)
  have L129 := hts (.fieldLink RX5 129 "AnvilHouse$Billet" "layers" "I") (by decide +kernel)
  have L132 := hts (.fieldLink RX5 132 "AnvilHouse$Billet" "load" "I") (by decide +kernel)
  have hl9 : lv_has sl9 4 [(0, .ref o), (1, .int (nI (i))), (2, .int 2)] := hl9
  refine lv_aload_n hx hb dX5_billetIs_0 rfl (lv_at hl9 0 rfl) ?_
  refine lv_iload_n hx hb dX5_billetIs_1 rfl (lv_at hl9 1 rfl) ?_
  refine z_callVr (As := [.int (nI (i))]) (rest := []) (wc := [(o, .inr (6, hsF ad lo)), (ad 7, .inr (0, [.int (kb), .ref rb, .int (nI (g))])), (rb, .inl (T 3, n, qa fb)), (h, .inr (1, biF a q u β))]) Z Mz9 (ch_billetAt l D T o ad lo kb rb n g fb h (biF a q u β) i hi hg hn hf) (cwV 1 hts gX5_billetIs_X5_billetAt rfl rfl rfl (by decide +kernel) ⟨Nat.le_of_ble_eq_true rfl, Nat.le_of_ble_eq_true rfl⟩) [0, 1, 2, 3] rfl (by decide) (fun _ j hj => rfl) (fun _ => Nat.le_refl _) (va_recv Z.2.1 Mz9.1 (ci := 6) (q0 := 0) rfl rfl) rfl hl9.1 (Nat.le_of_ble_eq_true rfl) dX5_billetIs_2 ⟨Nat.le_of_ble_eq_true rfl, Nat.le_of_ble_eq_true rfl⟩ rfl (fun _ Hp9 lc9 Mz9 => ?_)
  have Mz9 : zM D A s.heap [(o, .inr (6, hsF ad lo)), (ad 7, .inr (0, [.int (kb), .ref rb, .int (nI (g))])), (rb, .inl (T 3, n, qa fb)), (h, .inr (1, biF a q u β)), (a, .inl (T 0, 8, .inl α)), (q, .inl (T 0, 8, .inl κ)), (u, .inr (5, [.int (τ 0), .int (τ 1), .int (τ 2)]))] _ _ := Mz9
  refine lv_astore_n (lv' := [(3, .ref h), (0, .ref o), (1, .int (nI (i))), (2, .int 2)]) hx hb dX5_billetIs_5 rfl hl9 (by decide) rfl (fun sl9 hl9 => ?_)
  refine lv_iload_n hx hb dX5_billetIs_6 rfl (lv_at hl9 3 rfl) ?_
  refine lv_tableIn (off := 59) (tgt := 66) hx hb dX5_billetIs_7 (by decide) (by decide) (by decide) (by decide) ?_
  refine lv_aload_n hx hb dX5_billetIs_66 rfl (lv_at hl9 0 rfl) ?_
  refine z_callVi (As := []) (rest := []) (rv := VO α 0) (wc := biW h a q u T β α κ τ) (wc' := biW h a q u T β α κ τ) Z Mz9 (cb_volume l D T h a q u β α κ τ) (cwV 0 hts gX5_billetIs_X0_volume rfl rfl rfl (by decide +kernel) ⟨Nat.le_of_ble_eq_true rfl, Nat.le_of_ble_eq_true rfl⟩) [3, 4, 5, 6] rfl (by decide) (fun j hj => rfl) (Nat.le_refl _) (va_recv Z.2.1 Mz9.1 (ci := 1) (q0 := 3) rfl rfl) rfl hl9.1 (Nat.le_of_ble_eq_true rfl) dX5_billetIs_67 ⟨Nat.le_of_ble_eq_true rfl, Nat.le_of_ble_eq_true rfl⟩ rfl (fun Hp9 lc9 Mz9 => ?_)
  have Mz9 : zM D A s.heap [(o, .inr (6, hsF ad lo)), (ad 7, .inr (0, [.int (kb), .ref rb, .int (nI (g))])), (rb, .inl (T 3, n, qa fb)), (h, .inr (1, biF a q u β)), (a, .inl (T 0, 8, .inl α)), (q, .inl (T 0, 8, .inl κ)), (u, .inr (5, [.int (τ 0), .int (τ 1), .int (τ 2)]))] _ _ := Mz9
  exact hret _ _ _ _ _ sl9 _ _ Mz9 (rfl) (rfl) (rfl) (Nat.le_of_ble_eq_true rfl) (Nat.le_of_ble_eq_true rfl) dX5_billetIs_70
set_option maxHeartbeats 4000000 in
set_option maxRecDepth 100000 in
theorem ch_billetIs_3 (l : Launch) (D : va_G) (T : Nat → ClassId) (o : Nat) (ad : Nat → Nat) (lo : Int32) (kb : Int32) (rb n g : Nat) (fb : Nat → Option Nat) (h a q u : Nat) (β α κ τ : Nat → Int32) (i : Nat) (hi : i < g) (hg : g ≤ n) (hn : n ≤ 40000) (hf : fb i = some h) : ZI l yX5_billetIs wsX5_billetIs (zrm 4 85) D T [(o, .inr (6, hsF ad lo)), (ad 7, .inr (0, [.int (kb), .ref rb, .int (nI (g))])), (rb, .inl (T 3, n, qa fb)), (h, .inr (1, biF a q u β)), (a, .inl (T 0, 8, .inl α)), (q, .inl (T 0, 8, .inl κ)), (u, .inr (5, [.int (τ 0), .int (τ 1), .int (τ 2)]))] [(o, .inr (6, hsF ad lo)), (ad 7, .inr (0, [.int (kb), .ref rb, .int (nI (g))])), (rb, .inl (T 3, n, qa fb)), (h, .inr (1, biF a q u β)), (a, .inl (T 0, 8, .inl α)), (q, .inl (T 0, 8, .inl κ)), (u, .inr (5, [.int (τ 0), .int (τ 1), .int (τ 2)]))] [.ref o, .int (nI (i)), .int 3] (β 9) 0 0 := by
  refine z_inI (cc := cX5_billetIs) (maxL := 4) (rt := .int) (by decide +kernel) rfl (Nat.le_of_ble_eq_true rfl) ?_
  intro p e s m args below meth c sl9 A Q Z hnm Mz9 hl9 hret
  have Z : zC p s m args c cX5_billetIs 4 RX5 wsX5_billetIs D T A := Z
  have hx := Z.1.1
  have hb := Z.1.2.1
  have hts := Z.1.2.2.2.2
  have hin5 : ∀ w ∈ wsX50, w ∈ wsX5_billetIs := by decide +kernel
  have hinL : ∀ w ∈ wsJx4a65c0, w ∈ wsX5_billetIs := by decide +kernel
  have hin0 : ∀ w ∈ wsX00, w ∈ wsX5_billetIs := by decide +kernel
  have L107 := hts (.fieldLink RX5 107 "AnvilHouse$Billet" "skin" "I") (by decide +kernel)
  have L110 := hts (.fieldLink RX5 110 "AnvilHouse$Billet" "core" "I") (by decide +kernel)
  have L116 := hts (.fieldLink RX5 116 "AnvilHouse$Billet" "heats" "I") (by decide +kernel)
  have L119 := hts (.fieldLink RX5 119 "AnvilHouse$Billet" "grain" "I") (by decide +kernel)
  have L122 := hts (.fieldLink RX5 122 "AnvilHouse$Billet" "laps" "I") (by decide +kernel)
  have L125 := hts (.fieldLink RX5 125 "AnvilHouse$Billet" "cracked" "Z") (by decide +kernel)
  have L129 := hts (.fieldLink RX5 129 "AnvilHouse$Billet" "layers" "I") (by decide +kernel)
  have L132 := hts (.fieldLink RX5 132 "AnvilHouse$Billet" "load" "I") (by decide +kernel)
  have hl9 : lv_has sl9 4 [(0, .ref o), (1, .int (nI (i))), (2, .int 3)] := hl9
  refine lv_aload_n hx hb dX5_billetIs_0 rfl (lv_at hl9 0 rfl) ?_
  refine lv_iload_n hx hb dX5_billetIs_1 rfl (lv_at hl9 1 rfl) ?_
  refine z_callVr (As := [.int (nI (i))]) (rest := []) (wc := [(o, .inr (6, hsF ad lo)), (ad 7, .inr (0, [.int (kb), .ref rb, .int (nI (g))])), (rb, .inl (T 3, n, qa fb)), (h, .inr (1, biF a q u β))]) Z Mz9 (ch_billetAt l D T o ad lo kb rb n g fb h (biF a q u β) i hi hg hn hf) (cwV 1 hts gX5_billetIs_X5_billetAt rfl rfl rfl (by decide +kernel) ⟨Nat.le_of_ble_eq_true rfl, Nat.le_of_ble_eq_true rfl⟩) [0, 1, 2, 3] rfl (by decide) (fun _ j hj => rfl) (fun _ => Nat.le_refl _) (va_recv Z.2.1 Mz9.1 (ci := 6) (q0 := 0) rfl rfl) rfl hl9.1 (Nat.le_of_ble_eq_true rfl) dX5_billetIs_2 ⟨Nat.le_of_ble_eq_true rfl, Nat.le_of_ble_eq_true rfl⟩ rfl (fun _ Hp9 lc9 Mz9 => ?_)
  have Mz9 : zM D A s.heap [(o, .inr (6, hsF ad lo)), (ad 7, .inr (0, [.int (kb), .ref rb, .int (nI (g))])), (rb, .inl (T 3, n, qa fb)), (h, .inr (1, biF a q u β)), (a, .inl (T 0, 8, .inl α)), (q, .inl (T 0, 8, .inl κ)), (u, .inr (5, [.int (τ 0), .int (τ 1), .int (τ 2)]))] _ _ := Mz9
  refine lv_astore_n (lv' := [(3, .ref h), (0, .ref o), (1, .int (nI (i))), (2, .int 3)]) hx hb dX5_billetIs_5 rfl hl9 (by decide) rfl (fun sl9 hl9 => ?_)
  refine lv_iload_n hx hb dX5_billetIs_6 rfl (lv_at hl9 3 rfl) ?_
  refine lv_tableIn (off := 64) (tgt := 71) hx hb dX5_billetIs_7 (by decide) (by decide) (by decide) (by decide) ?_
  refine lv_aload_n hx hb dX5_billetIs_71 rfl (lv_at hl9 0 rfl) ?_
  refine z_getf Z Mz9 hin0 3 rfl rfl 9 (by decide) L116 rfl (v := .int (β 9)) rfl dX5_billetIs_72 ?_
  exact hret _ _ _ _ _ sl9 _ _ Mz9 (rfl) (rfl) (rfl) (Nat.le_of_ble_eq_true rfl) (Nat.le_of_ble_eq_true rfl) dX5_billetIs_75
set_option maxHeartbeats 4000000 in
set_option maxRecDepth 100000 in
theorem ch_billetIs_4 (l : Launch) (D : va_G) (T : Nat → ClassId) (o : Nat) (ad : Nat → Nat) (lo : Int32) (kb : Int32) (rb n g : Nat) (fb : Nat → Option Nat) (h a q u : Nat) (β α κ τ : Nat → Int32) (i : Nat) (hi : i < g) (hg : g ≤ n) (hn : n ≤ 40000) (hf : fb i = some h) : ZI l yX5_billetIs wsX5_billetIs (zrm 4 85) D T [(o, .inr (6, hsF ad lo)), (ad 7, .inr (0, [.int (kb), .ref rb, .int (nI (g))])), (rb, .inl (T 3, n, qa fb)), (h, .inr (1, biF a q u β)), (a, .inl (T 0, 8, .inl α)), (q, .inl (T 0, 8, .inl κ)), (u, .inr (5, [.int (τ 0), .int (τ 1), .int (τ 2)]))] [(o, .inr (6, hsF ad lo)), (ad 7, .inr (0, [.int (kb), .ref rb, .int (nI (g))])), (rb, .inl (T 3, n, qa fb)), (h, .inr (1, biF a q u β)), (a, .inl (T 0, 8, .inl α)), (q, .inl (T 0, 8, .inl κ)), (u, .inr (5, [.int (τ 0), .int (τ 1), .int (τ 2)]))] [.ref o, .int (nI (i)), .int 4] (β 10) 0 0 := by
  refine z_inI (cc := cX5_billetIs) (maxL := 4) (rt := .int) (by decide +kernel) rfl (Nat.le_of_ble_eq_true rfl) ?_
  intro p e s m args below meth c sl9 A Q Z hnm Mz9 hl9 hret
  have Z : zC p s m args c cX5_billetIs 4 RX5 wsX5_billetIs D T A := Z
  have hx := Z.1.1
  have hb := Z.1.2.1
  have hts := Z.1.2.2.2.2
  have hin5 : ∀ w ∈ wsX50, w ∈ wsX5_billetIs := by decide +kernel
  have hinL : ∀ w ∈ wsJx4a65c0, w ∈ wsX5_billetIs := by decide +kernel
  have hin0 : ∀ w ∈ wsX00, w ∈ wsX5_billetIs := by decide +kernel
  have L107 := hts (.fieldLink RX5 107 "AnvilHouse$Billet" "skin" "I") (by decide +kernel)
  have L110 := hts (.fieldLink RX5 110 "AnvilHouse$Billet" "core" "I") (by decide +kernel)
  have L116 := hts (.fieldLink RX5 116 "AnvilHouse$Billet" "heats" "I") (by decide +kernel)
  have L119 := hts (.fieldLink RX5 119 "AnvilHouse$Billet" "grain" "I") (by decide +kernel)
  have L122 := hts (.fieldLink RX5 122 "AnvilHouse$Billet" "laps" "I") (by decide +kernel)
  have L125 := hts (.fieldLink RX5 125 "AnvilHouse$Billet" "cracked" "Z") (by decide +kernel)
  have L129 := hts (.fieldLink RX5 129 "AnvilHouse$Billet" "layers" "I") (by decide +kernel)
  have L132 := hts (.fieldLink RX5 132 "AnvilHouse$Billet" "load" "I") (by decide +kernel)
  have hl9 : lv_has sl9 4 [(0, .ref o), (1, .int (nI (i))), (2, .int 4)] := hl9
  refine lv_aload_n hx hb dX5_billetIs_0 rfl (lv_at hl9 0 rfl) ?_
  refine lv_iload_n hx hb dX5_billetIs_1 rfl (lv_at hl9 1 rfl) ?_
  refine z_callVr (As := [.int (nI (i))]) (rest := []) (wc := [(o, .inr (6, hsF ad lo)), (ad 7, .inr (0, [.int (kb), .ref rb, .int (nI (g))])), (rb, .inl (T 3, n, qa fb)), (h, .inr (1, biF a q u β))]) Z Mz9 (ch_billetAt l D T o ad lo kb rb n g fb h (biF a q u β) i hi hg hn hf) (cwV 1 hts gX5_billetIs_X5_billetAt rfl rfl rfl (by decide +kernel) ⟨Nat.le_of_ble_eq_true rfl, Nat.le_of_ble_eq_true rfl⟩) [0, 1, 2, 3] rfl (by decide) (fun _ j hj => rfl) (fun _ => Nat.le_refl _) (va_recv Z.2.1 Mz9.1 (ci := 6) (q0 := 0) rfl rfl) rfl hl9.1 (Nat.le_of_ble_eq_true rfl) dX5_billetIs_2 ⟨Nat.le_of_ble_eq_true rfl, Nat.le_of_ble_eq_true rfl⟩ rfl (fun _ Hp9 lc9 Mz9 => ?_)
  have Mz9 : zM D A s.heap [(o, .inr (6, hsF ad lo)), (ad 7, .inr (0, [.int (kb), .ref rb, .int (nI (g))])), (rb, .inl (T 3, n, qa fb)), (h, .inr (1, biF a q u β)), (a, .inl (T 0, 8, .inl α)), (q, .inl (T 0, 8, .inl κ)), (u, .inr (5, [.int (τ 0), .int (τ 1), .int (τ 2)]))] _ _ := Mz9
  refine lv_astore_n (lv' := [(3, .ref h), (0, .ref o), (1, .int (nI (i))), (2, .int 4)]) hx hb dX5_billetIs_5 rfl hl9 (by decide) rfl (fun sl9 hl9 => ?_)
  refine lv_iload_n hx hb dX5_billetIs_6 rfl (lv_at hl9 3 rfl) ?_
  refine lv_tableIn (off := 69) (tgt := 76) hx hb dX5_billetIs_7 (by decide) (by decide) (by decide) (by decide) ?_
  refine lv_aload_n hx hb dX5_billetIs_76 rfl (lv_at hl9 0 rfl) ?_
  refine z_getf Z Mz9 hin0 3 rfl rfl 10 (by decide) L119 rfl (v := .int (β 10)) rfl dX5_billetIs_77 ?_
  exact hret _ _ _ _ _ sl9 _ _ Mz9 (rfl) (rfl) (rfl) (Nat.le_of_ble_eq_true rfl) (Nat.le_of_ble_eq_true rfl) dX5_billetIs_80
set_option maxHeartbeats 4000000 in
set_option maxRecDepth 100000 in
theorem ch_billetIs_5 (l : Launch) (D : va_G) (T : Nat → ClassId) (o : Nat) (ad : Nat → Nat) (lo : Int32) (kb : Int32) (rb n g : Nat) (fb : Nat → Option Nat) (h a q u : Nat) (β α κ τ : Nat → Int32) (i : Nat) (hi : i < g) (hg : g ≤ n) (hn : n ≤ 40000) (hf : fb i = some h) : ZI l yX5_billetIs wsX5_billetIs (zrm 4 85) D T [(o, .inr (6, hsF ad lo)), (ad 7, .inr (0, [.int (kb), .ref rb, .int (nI (g))])), (rb, .inl (T 3, n, qa fb)), (h, .inr (1, biF a q u β)), (a, .inl (T 0, 8, .inl α)), (q, .inl (T 0, 8, .inl κ)), (u, .inr (5, [.int (τ 0), .int (τ 1), .int (τ 2)]))] [(o, .inr (6, hsF ad lo)), (ad 7, .inr (0, [.int (kb), .ref rb, .int (nI (g))])), (rb, .inl (T 3, n, qa fb)), (h, .inr (1, biF a q u β)), (a, .inl (T 0, 8, .inl α)), (q, .inl (T 0, 8, .inl κ)), (u, .inr (5, [.int (τ 0), .int (τ 1), .int (τ 2)]))] [.ref o, .int (nI (i)), .int 5] (β 11) 0 0 := by
  refine z_inI (cc := cX5_billetIs) (maxL := 4) (rt := .int) (by decide +kernel) rfl (Nat.le_of_ble_eq_true rfl) ?_
  intro p e s m args below meth c sl9 A Q Z hnm Mz9 hl9 hret
  have Z : zC p s m args c cX5_billetIs 4 RX5 wsX5_billetIs D T A := Z
  have hx := Z.1.1
  have hb := Z.1.2.1
  have hts := Z.1.2.2.2.2
  have hin5 : ∀ w ∈ wsX50, w ∈ wsX5_billetIs := by decide +kernel
  have hinL : ∀ w ∈ wsJx4a65c0, w ∈ wsX5_billetIs := by decide +kernel
  have hin0 : ∀ w ∈ wsX00, w ∈ wsX5_billetIs := by decide +kernel
  have L107 := hts (.fieldLink RX5 107 "AnvilHouse$Billet" "skin" "I") (by decide +kernel)
  have L110 := hts (.fieldLink RX5 110 "AnvilHouse$Billet" "core" "I") (by decide +kernel)
  have L116 := hts (.fieldLink RX5 116 "AnvilHouse$Billet" "heats" "I") (by decide +kernel)
  have L119 := hts (.fieldLink RX5 119 "AnvilHouse$Billet" "grain" "I") (by decide +kernel)
  have L122 := hts (.fieldLink RX5 122 "AnvilHouse$Billet" "laps" "I") (by decide +kernel)
  have L125 := hts (.fieldLink RX5 125 "AnvilHouse$Billet" "cracked" "Z") (by decide +kernel)
  have L129 := hts (.fieldLink RX5 129 "AnvilHouse$Billet" "layers" "I") (by decide +kernel)
  have L132 := hts (.fieldLink RX5 132 "AnvilHouse$Billet" "load" "I") (by decide +kernel)
  have hl9 : lv_has sl9 4 [(0, .ref o), (1, .int (nI (i))), (2, .int 5)] := hl9
  refine lv_aload_n hx hb dX5_billetIs_0 rfl (lv_at hl9 0 rfl) ?_
  refine lv_iload_n hx hb dX5_billetIs_1 rfl (lv_at hl9 1 rfl) ?_
  refine z_callVr (As := [.int (nI (i))]) (rest := []) (wc := [(o, .inr (6, hsF ad lo)), (ad 7, .inr (0, [.int (kb), .ref rb, .int (nI (g))])), (rb, .inl (T 3, n, qa fb)), (h, .inr (1, biF a q u β))]) Z Mz9 (ch_billetAt l D T o ad lo kb rb n g fb h (biF a q u β) i hi hg hn hf) (cwV 1 hts gX5_billetIs_X5_billetAt rfl rfl rfl (by decide +kernel) ⟨Nat.le_of_ble_eq_true rfl, Nat.le_of_ble_eq_true rfl⟩) [0, 1, 2, 3] rfl (by decide) (fun _ j hj => rfl) (fun _ => Nat.le_refl _) (va_recv Z.2.1 Mz9.1 (ci := 6) (q0 := 0) rfl rfl) rfl hl9.1 (Nat.le_of_ble_eq_true rfl) dX5_billetIs_2 ⟨Nat.le_of_ble_eq_true rfl, Nat.le_of_ble_eq_true rfl⟩ rfl (fun _ Hp9 lc9 Mz9 => ?_)
  have Mz9 : zM D A s.heap [(o, .inr (6, hsF ad lo)), (ad 7, .inr (0, [.int (kb), .ref rb, .int (nI (g))])), (rb, .inl (T 3, n, qa fb)), (h, .inr (1, biF a q u β)), (a, .inl (T 0, 8, .inl α)), (q, .inl (T 0, 8, .inl κ)), (u, .inr (5, [.int (τ 0), .int (τ 1), .int (τ 2)]))] _ _ := Mz9
  refine lv_astore_n (lv' := [(3, .ref h), (0, .ref o), (1, .int (nI (i))), (2, .int 5)]) hx hb dX5_billetIs_5 rfl hl9 (by decide) rfl (fun sl9 hl9 => ?_)
  refine lv_iload_n hx hb dX5_billetIs_6 rfl (lv_at hl9 3 rfl) ?_
  refine lv_tableIn (off := 74) (tgt := 81) hx hb dX5_billetIs_7 (by decide) (by decide) (by decide) (by decide) ?_
  refine lv_aload_n hx hb dX5_billetIs_81 rfl (lv_at hl9 0 rfl) ?_
  refine z_getf Z Mz9 hin0 3 rfl rfl 11 (by decide) L122 rfl (v := .int (β 11)) rfl dX5_billetIs_82 ?_
  exact hret _ _ _ _ _ sl9 _ _ Mz9 (rfl) (rfl) (rfl) (Nat.le_of_ble_eq_true rfl) (Nat.le_of_ble_eq_true rfl) dX5_billetIs_85
set_option maxHeartbeats 4000000 in
set_option maxRecDepth 100000 in
theorem ch_billetIs_6 (l : Launch) (D : va_G) (T : Nat → ClassId) (o : Nat) (ad : Nat → Nat) (lo : Int32) (kb : Int32) (rb n g : Nat) (fb : Nat → Option Nat) (h a q u : Nat) (β α κ τ : Nat → Int32) (i : Nat) (hi : i < g) (hg : g ≤ n) (hn : n ≤ 40000) (hf : fb i = some h) : ZI l yX5_billetIs wsX5_billetIs (zrm 4 85) D T [(o, .inr (6, hsF ad lo)), (ad 7, .inr (0, [.int (kb), .ref rb, .int (nI (g))])), (rb, .inl (T 3, n, qa fb)), (h, .inr (1, biF a q u β)), (a, .inl (T 0, 8, .inl α)), (q, .inl (T 0, 8, .inl κ)), (u, .inr (5, [.int (τ 0), .int (τ 1), .int (τ 2)]))] [(o, .inr (6, hsF ad lo)), (ad 7, .inr (0, [.int (kb), .ref rb, .int (nI (g))])), (rb, .inl (T 3, n, qa fb)), (h, .inr (1, biF a q u β)), (a, .inl (T 0, 8, .inl α)), (q, .inl (T 0, 8, .inl κ)), (u, .inr (5, [.int (τ 0), .int (τ 1), .int (τ 2)]))] [.ref o, .int (nI (i)), .int 6] (if β 12 = 0 then 0 else 1) 0 0 := by
  refine z_inI (cc := cX5_billetIs) (maxL := 4) (rt := .int) (by decide +kernel) rfl (Nat.le_of_ble_eq_true rfl) ?_
  intro p e s m args below meth c sl9 A Q Z hnm Mz9 hl9 hret
  have Z : zC p s m args c cX5_billetIs 4 RX5 wsX5_billetIs D T A := Z
  have hx := Z.1.1
  have hb := Z.1.2.1
  have hts := Z.1.2.2.2.2
  have hin5 : ∀ w ∈ wsX50, w ∈ wsX5_billetIs := by decide +kernel
  have hinL : ∀ w ∈ wsJx4a65c0, w ∈ wsX5_billetIs := by decide +kernel
  have hin0 : ∀ w ∈ wsX00, w ∈ wsX5_billetIs := by decide +kernel
  have L107 := hts (.fieldLink RX5 107 "AnvilHouse$Billet" "skin" "I") (by decide +kernel)
  have L110 := hts (.fieldLink RX5 110 "AnvilHouse$Billet" "core" "I") (by decide +kernel)
  have L116 := hts (.fieldLink RX5 116 "AnvilHouse$Billet" "heats" "I") (by decide +kernel)
  have L119 := hts (.fieldLink RX5 119 "AnvilHouse$Billet" "grain" "I") (by decide +kernel)
  have L122 := hts (.fieldLink RX5 122 "AnvilHouse$Billet" "laps" "I") (by decide +kernel)
  have L125 := hts (.fieldLink RX5 125 "AnvilHouse$Billet" "cracked" "Z") (by decide +kernel)
  have L129 := hts (.fieldLink RX5 129 "AnvilHouse$Billet" "layers" "I") (by decide +kernel)
  have L132 := hts (.fieldLink RX5 132 "AnvilHouse$Billet" "load" "I") (by decide +kernel)
  have hl9 : lv_has sl9 4 [(0, .ref o), (1, .int (nI (i))), (2, .int 6)] := hl9
  refine lv_aload_n hx hb dX5_billetIs_0 rfl (lv_at hl9 0 rfl) ?_
  refine lv_iload_n hx hb dX5_billetIs_1 rfl (lv_at hl9 1 rfl) ?_
  refine z_callVr (As := [.int (nI (i))]) (rest := []) (wc := [(o, .inr (6, hsF ad lo)), (ad 7, .inr (0, [.int (kb), .ref rb, .int (nI (g))])), (rb, .inl (T 3, n, qa fb)), (h, .inr (1, biF a q u β))]) Z Mz9 (ch_billetAt l D T o ad lo kb rb n g fb h (biF a q u β) i hi hg hn hf) (cwV 1 hts gX5_billetIs_X5_billetAt rfl rfl rfl (by decide +kernel) ⟨Nat.le_of_ble_eq_true rfl, Nat.le_of_ble_eq_true rfl⟩) [0, 1, 2, 3] rfl (by decide) (fun _ j hj => rfl) (fun _ => Nat.le_refl _) (va_recv Z.2.1 Mz9.1 (ci := 6) (q0 := 0) rfl rfl) rfl hl9.1 (Nat.le_of_ble_eq_true rfl) dX5_billetIs_2 ⟨Nat.le_of_ble_eq_true rfl, Nat.le_of_ble_eq_true rfl⟩ rfl (fun _ Hp9 lc9 Mz9 => ?_)
  have Mz9 : zM D A s.heap [(o, .inr (6, hsF ad lo)), (ad 7, .inr (0, [.int (kb), .ref rb, .int (nI (g))])), (rb, .inl (T 3, n, qa fb)), (h, .inr (1, biF a q u β)), (a, .inl (T 0, 8, .inl α)), (q, .inl (T 0, 8, .inl κ)), (u, .inr (5, [.int (τ 0), .int (τ 1), .int (τ 2)]))] _ _ := Mz9
  refine lv_astore_n (lv' := [(3, .ref h), (0, .ref o), (1, .int (nI (i))), (2, .int 6)]) hx hb dX5_billetIs_5 rfl hl9 (by decide) rfl (fun sl9 hl9 => ?_)
  refine lv_iload_n hx hb dX5_billetIs_6 rfl (lv_at hl9 3 rfl) ?_
  refine lv_tableIn (off := 79) (tgt := 86) hx hb dX5_billetIs_7 (by decide) (by decide) (by decide) (by decide) ?_
  refine lv_aload_n hx hb dX5_billetIs_86 rfl (lv_at hl9 0 rfl) ?_
  refine z_getf Z Mz9 hin0 3 rfl rfl 12 (by decide) L125 rfl (v := .int (β 12)) rfl dX5_billetIs_87 ?_
  refine lv_if_eq (tgt := 97) hx hb dX5_billetIs_90 (by decide) (fun c_1 => ?_) (fun c_1 => ?_)
  ·
    refine lv_iconst (v := 0) hx hb dX5_billetIs_97 (by decide) ?_
    exact hret _ _ _ _ _ sl9 _ _ Mz9 (rfl) (by simp only [if_pos c_1]) (rfl) (Nat.le_of_ble_eq_true rfl) (Nat.le_of_ble_eq_true rfl) dX5_billetIs_98
  ·
    refine lv_iconst (v := 1) hx hb dX5_billetIs_93 (by decide) ?_
    refine lv_goto (tgt := 98) hx hb dX5_billetIs_94 (by decide) ?_
    exact hret _ _ _ _ _ sl9 _ _ Mz9 (rfl) (by simp only [if_neg c_1]) (rfl) (Nat.le_of_ble_eq_true rfl) (Nat.le_of_ble_eq_true rfl) dX5_billetIs_98
set_option maxHeartbeats 4000000 in
set_option maxRecDepth 100000 in
theorem ch_billetIs_7 (l : Launch) (D : va_G) (T : Nat → ClassId) (o : Nat) (ad : Nat → Nat) (lo : Int32) (kb : Int32) (rb n g : Nat) (fb : Nat → Option Nat) (h a q u : Nat) (β α κ τ : Nat → Int32) (i : Nat) (hi : i < g) (hg : g ≤ n) (hn : n ≤ 40000) (hf : fb i = some h) : ZI l yX5_billetIs wsX5_billetIs (zrm 4 85) D T [(o, .inr (6, hsF ad lo)), (ad 7, .inr (0, [.int (kb), .ref rb, .int (nI (g))])), (rb, .inl (T 3, n, qa fb)), (h, .inr (1, biF a q u β)), (a, .inl (T 0, 8, .inl α)), (q, .inl (T 0, 8, .inl κ)), (u, .inr (5, [.int (τ 0), .int (τ 1), .int (τ 2)]))] [(o, .inr (6, hsF ad lo)), (ad 7, .inr (0, [.int (kb), .ref rb, .int (nI (g))])), (rb, .inl (T 3, n, qa fb)), (h, .inr (1, biF a q u β)), (a, .inl (T 0, 8, .inl α)), (q, .inl (T 0, 8, .inl κ)), (u, .inr (5, [.int (τ 0), .int (τ 1), .int (τ 2)]))] [.ref o, .int (nI (i)), .int 7] (β 13) 0 0 := by
  refine z_inI (cc := cX5_billetIs) (maxL := 4) (rt := .int) (by decide +kernel) rfl (Nat.le_of_ble_eq_true rfl) ?_
  intro p e s m args below meth c sl9 A Q Z hnm Mz9 hl9 hret
  have Z : zC p s m args c cX5_billetIs 4 RX5 wsX5_billetIs D T A := Z
  have hx := Z.1.1
  have hb := Z.1.2.1
  have hts := Z.1.2.2.2.2
  have hin5 : ∀ w ∈ wsX50, w ∈ wsX5_billetIs := by decide +kernel
  have hinL : ∀ w ∈ wsJx4a65c0, w ∈ wsX5_billetIs := by decide +kernel
  have hin0 : ∀ w ∈ wsX00, w ∈ wsX5_billetIs := by decide +kernel
  have L107 := hts (.fieldLink RX5 107 "AnvilHouse$Billet" "skin" "I") (by decide +kernel)
  have L110 := hts (.fieldLink RX5 110 "AnvilHouse$Billet" "core" "I") (by decide +kernel)
  have L116 := hts (.fieldLink RX5 116 "AnvilHouse$Billet" "heats" "I") (by decide +kernel)
  have L119 := hts (.fieldLink RX5 119 "AnvilHouse$Billet" "grain" "I") (by decide +kernel)
  have L122 := hts (.fieldLink RX5 122 "AnvilHouse$Billet" "laps" "I") (by decide +kernel)
  have L125 := hts (.fieldLink RX5 125 "AnvilHouse$Billet" "cracked" "Z") (by decide +kernel)
  have L129 := hts (.fieldLink RX5 129 "AnvilHouse$Billet" "layers" "I") (by decide +kernel)
  have L132 := hts (.fieldLink RX5 132 "AnvilHouse$Billet" "load" "I") (by decide +kernel)
  have hl9 : lv_has sl9 4 [(0, .ref o), (1, .int (nI (i))), (2, .int 7)] := hl9
  refine lv_aload_n hx hb dX5_billetIs_0 rfl (lv_at hl9 0 rfl) ?_
  refine lv_iload_n hx hb dX5_billetIs_1 rfl (lv_at hl9 1 rfl) ?_
  refine z_callVr (As := [.int (nI (i))]) (rest := []) (wc := [(o, .inr (6, hsF ad lo)), (ad 7, .inr (0, [.int (kb), .ref rb, .int (nI (g))])), (rb, .inl (T 3, n, qa fb)), (h, .inr (1, biF a q u β))]) Z Mz9 (ch_billetAt l D T o ad lo kb rb n g fb h (biF a q u β) i hi hg hn hf) (cwV 1 hts gX5_billetIs_X5_billetAt rfl rfl rfl (by decide +kernel) ⟨Nat.le_of_ble_eq_true rfl, Nat.le_of_ble_eq_true rfl⟩) [0, 1, 2, 3] rfl (by decide) (fun _ j hj => rfl) (fun _ => Nat.le_refl _) (va_recv Z.2.1 Mz9.1 (ci := 6) (q0 := 0) rfl rfl) rfl hl9.1 (Nat.le_of_ble_eq_true rfl) dX5_billetIs_2 ⟨Nat.le_of_ble_eq_true rfl, Nat.le_of_ble_eq_true rfl⟩ rfl (fun _ Hp9 lc9 Mz9 => ?_)
  have Mz9 : zM D A s.heap [(o, .inr (6, hsF ad lo)), (ad 7, .inr (0, [.int (kb), .ref rb, .int (nI (g))])), (rb, .inl (T 3, n, qa fb)), (h, .inr (1, biF a q u β)), (a, .inl (T 0, 8, .inl α)), (q, .inl (T 0, 8, .inl κ)), (u, .inr (5, [.int (τ 0), .int (τ 1), .int (τ 2)]))] _ _ := Mz9
  refine lv_astore_n (lv' := [(3, .ref h), (0, .ref o), (1, .int (nI (i))), (2, .int 7)]) hx hb dX5_billetIs_5 rfl hl9 (by decide) rfl (fun sl9 hl9 => ?_)
  refine lv_iload_n hx hb dX5_billetIs_6 rfl (lv_at hl9 3 rfl) ?_
  refine lv_tableIn (off := 92) (tgt := 99) hx hb dX5_billetIs_7 (by decide) (by decide) (by decide) (by decide) ?_
  refine lv_aload_n hx hb dX5_billetIs_99 rfl (lv_at hl9 0 rfl) ?_
  refine z_getf Z Mz9 hin0 3 rfl rfl 13 (by decide) L129 rfl (v := .int (β 13)) rfl dX5_billetIs_100 ?_
  exact hret _ _ _ _ _ sl9 _ _ Mz9 (rfl) (rfl) (rfl) (Nat.le_of_ble_eq_true rfl) (Nat.le_of_ble_eq_true rfl) dX5_billetIs_103
set_option maxHeartbeats 4000000 in
set_option maxRecDepth 100000 in
theorem ch_billetIs_8 (l : Launch) (D : va_G) (T : Nat → ClassId) (o : Nat) (ad : Nat → Nat) (lo : Int32) (kb : Int32) (rb n g : Nat) (fb : Nat → Option Nat) (h a q u : Nat) (β α κ τ : Nat → Int32) (i : Nat) (hi : i < g) (hg : g ≤ n) (hn : n ≤ 40000) (hf : fb i = some h) : ZI l yX5_billetIs wsX5_billetIs (zrm 4 85) D T [(o, .inr (6, hsF ad lo)), (ad 7, .inr (0, [.int (kb), .ref rb, .int (nI (g))])), (rb, .inl (T 3, n, qa fb)), (h, .inr (1, biF a q u β)), (a, .inl (T 0, 8, .inl α)), (q, .inl (T 0, 8, .inl κ)), (u, .inr (5, [.int (τ 0), .int (τ 1), .int (τ 2)]))] [(o, .inr (6, hsF ad lo)), (ad 7, .inr (0, [.int (kb), .ref rb, .int (nI (g))])), (rb, .inl (T 3, n, qa fb)), (h, .inr (1, biF a q u β)), (a, .inl (T 0, 8, .inl α)), (q, .inl (T 0, 8, .inl κ)), (u, .inr (5, [.int (τ 0), .int (τ 1), .int (τ 2)]))] [.ref o, .int (nI (i)), .int 8] (β 14) 0 0 := by
  refine z_inI (cc := cX5_billetIs) (maxL := 4) (rt := .int) (by decide +kernel) rfl (Nat.le_of_ble_eq_true rfl) ?_
  intro p e s m args below meth c sl9 A Q Z hnm Mz9 hl9 hret
  have Z : zC p s m args c cX5_billetIs 4 RX5 wsX5_billetIs D T A := Z
  have hx := Z.1.1
  have hb := Z.1.2.1
  have hts := Z.1.2.2.2.2
  have hin5 : ∀ w ∈ wsX50, w ∈ wsX5_billetIs := by decide +kernel
  have hinL : ∀ w ∈ wsJx4a65c0, w ∈ wsX5_billetIs := by decide +kernel
  have hin0 : ∀ w ∈ wsX00, w ∈ wsX5_billetIs := by decide +kernel
  have L107 := hts (.fieldLink RX5 107 "AnvilHouse$Billet" "skin" "I") (by decide +kernel)
  have L110 := hts (.fieldLink RX5 110 "AnvilHouse$Billet" "core" "I") (by decide +kernel)
  have L116 := hts (.fieldLink RX5 116 "AnvilHouse$Billet" "heats" "I") (by decide +kernel)
  have L119 := hts (.fieldLink RX5 119 "AnvilHouse$Billet" "grain" "I") (by decide +kernel)
  have L122 := hts (.fieldLink RX5 122 "AnvilHouse$Billet" "laps" "I") (by decide +kernel)
  have L125 := hts (.fieldLink RX5 125 "AnvilHouse$Billet" "cracked" "Z") (by decide +kernel)
  have L129 := hts (.fieldLink RX5 129 "AnvilHouse$Billet" "layers" "I") (by decide +kernel)
  have L132 := hts (.fieldLink RX5 132 "AnvilHouse$Billet" "load" "I") (by decide +kernel)
  have hl9 : lv_has sl9 4 [(0, .ref o), (1, .int (nI (i))), (2, .int 8)] := hl9
  refine lv_aload_n hx hb dX5_billetIs_0 rfl (lv_at hl9 0 rfl) ?_
  refine lv_iload_n hx hb dX5_billetIs_1 rfl (lv_at hl9 1 rfl) ?_
  refine z_callVr (As := [.int (nI (i))]) (rest := []) (wc := [(o, .inr (6, hsF ad lo)), (ad 7, .inr (0, [.int (kb), .ref rb, .int (nI (g))])), (rb, .inl (T 3, n, qa fb)), (h, .inr (1, biF a q u β))]) Z Mz9 (ch_billetAt l D T o ad lo kb rb n g fb h (biF a q u β) i hi hg hn hf) (cwV 1 hts gX5_billetIs_X5_billetAt rfl rfl rfl (by decide +kernel) ⟨Nat.le_of_ble_eq_true rfl, Nat.le_of_ble_eq_true rfl⟩) [0, 1, 2, 3] rfl (by decide) (fun _ j hj => rfl) (fun _ => Nat.le_refl _) (va_recv Z.2.1 Mz9.1 (ci := 6) (q0 := 0) rfl rfl) rfl hl9.1 (Nat.le_of_ble_eq_true rfl) dX5_billetIs_2 ⟨Nat.le_of_ble_eq_true rfl, Nat.le_of_ble_eq_true rfl⟩ rfl (fun _ Hp9 lc9 Mz9 => ?_)
  have Mz9 : zM D A s.heap [(o, .inr (6, hsF ad lo)), (ad 7, .inr (0, [.int (kb), .ref rb, .int (nI (g))])), (rb, .inl (T 3, n, qa fb)), (h, .inr (1, biF a q u β)), (a, .inl (T 0, 8, .inl α)), (q, .inl (T 0, 8, .inl κ)), (u, .inr (5, [.int (τ 0), .int (τ 1), .int (τ 2)]))] _ _ := Mz9
  refine lv_astore_n (lv' := [(3, .ref h), (0, .ref o), (1, .int (nI (i))), (2, .int 8)]) hx hb dX5_billetIs_5 rfl hl9 (by decide) rfl (fun sl9 hl9 => ?_)
  refine lv_iload_n hx hb dX5_billetIs_6 rfl (lv_at hl9 3 rfl) ?_
  refine lv_tableIn (off := 97) (tgt := 104) hx hb dX5_billetIs_7 (by decide) (by decide) (by decide) (by decide) ?_
  refine lv_aload_n hx hb dX5_billetIs_104 rfl (lv_at hl9 0 rfl) ?_
  refine z_getf Z Mz9 hin0 3 rfl rfl 14 (by decide) L132 rfl (v := .int (β 14)) rfl dX5_billetIs_105 ?_
  exact hret _ _ _ _ _ sl9 _ _ Mz9 (rfl) (rfl) (rfl) (Nat.le_of_ble_eq_true rfl) (Nat.le_of_ble_eq_true rfl) dX5_billetIs_108
set_option maxHeartbeats 4000000 in
set_option maxRecDepth 100000 in
theorem ch_billetIs_b (l : Launch) (hfl : l.stackTraces = false) (D : va_G) (T : Nat → ClassId) (ea mi : Nat) (sa : Nat → Nat) (o : Nat) (ad : Nat → Nat) (lo : Int32) (kb : Int32) (rb g : Nat) (v : Int32) (t : Int32) (hv9 : v < 0 ∨ nI g ≤ v) : ZB l yX5_billetIs wsX5_billetIs (zrmc 7 103 1 6) (zW ea mi sa) D T [(o, .inr (6, hsF ad lo)), (ad 7, .inr (0, [.int (kb), .ref rb, .int (nI (g))]))] [.ref o, .int (v), .int (t)] "java/lang/IndexOutOfBoundsException" := by
  refine z_inB (cc := cX5_billetIs) (maxL := 4) (ret := (some .int)) (by decide +kernel) rfl (Nat.le_of_ble_eq_true rfl) ?_
  intro p e s m args below meth c sl9 A hA Z hW Mz9 hl9 hE
  have Z : zC p s m args c cX5_billetIs 4 RX5 wsX5_billetIs D T A := Z
  have hx := Z.1.1
  have hb := Z.1.2.1
  have hts := Z.1.2.2.2.2
  have hin5 : ∀ w ∈ wsX50, w ∈ wsX5_billetIs := by decide +kernel
  have hinL : ∀ w ∈ wsJx4a65c0, w ∈ wsX5_billetIs := by decide +kernel
  have hin0 : ∀ w ∈ wsX00, w ∈ wsX5_billetIs := by decide +kernel
  have L107 := hts (.fieldLink RX5 107 "AnvilHouse$Billet" "skin" "I") (by decide +kernel)
  have L110 := hts (.fieldLink RX5 110 "AnvilHouse$Billet" "core" "I") (by decide +kernel)
  have L116 := hts (.fieldLink RX5 116 "AnvilHouse$Billet" "heats" "I") (by decide +kernel)
  have L119 := hts (.fieldLink RX5 119 "AnvilHouse$Billet" "grain" "I") (by decide +kernel)
  have L122 := hts (.fieldLink RX5 122 "AnvilHouse$Billet" "laps" "I") (by decide +kernel)
  have L125 := hts (.fieldLink RX5 125 "AnvilHouse$Billet" "cracked" "Z") (by decide +kernel)
  have L129 := hts (.fieldLink RX5 129 "AnvilHouse$Billet" "layers" "I") (by decide +kernel)
  have L132 := hts (.fieldLink RX5 132 "AnvilHouse$Billet" "load" "I") (by decide +kernel)
  have hl9 : lv_has sl9 4 [(0, .ref o), (1, .int (v)), (2, .int (t))] := hl9
  refine lv_aload_n hx hb dX5_billetIs_0 rfl (lv_at hl9 0 rfl) ?_
  refine lv_iload_n hx hb dX5_billetIs_1 rfl (lv_at hl9 1 rfl) ?_
  exact z_callB (As := [.int (v)]) (rest := []) (wc := [(o, .inr (6, hsF ad lo)), (ad 7, .inr (0, [.int (kb), .ref rb, .int (nI (g))]))]) (zW_k ea mi sa) hW Z Mz9 hA hE (ch_billetAt_bad l hfl D T ea mi sa o ad lo kb rb g v hv9) (cwV 1 hts gX5_billetIs_X5_billetAt rfl rfl rfl (by decide +kernel) ⟨Nat.le_of_ble_eq_true rfl, Nat.le_of_ble_eq_true rfl⟩) [0, 1] rfl (by decide) (va_recv Z.2.1 Mz9.1 (ci := 6) (q0 := 0) rfl rfl) rfl hl9.1 (Nat.le_of_ble_eq_true rfl) dX5_billetIs_2 ⟨Nat.le_of_ble_eq_true rfl, Nat.le_of_ble_eq_true rfl⟩ ⟨Nat.le_of_ble_eq_true rfl, Nat.le_of_ble_eq_true rfl⟩ rfl rfl
set_option maxHeartbeats 4000000 in
set_option maxRecDepth 100000 in
theorem ch_billetIs_a (l : Launch) (hfl : l.stackTraces = false) (D : va_G) (T : Nat → ClassId) (ea mi : Nat) (sa : Nat → Nat) (o : Nat) (ad : Nat → Nat) (lo : Int32) (kb : Int32) (rb n g : Nat) (fb : Nat → Option Nat) (h a q u : Nat) (β : Nat → Int32) (i : Nat) (hi : i < g) (hg : g ≤ n) (hn : n ≤ 40000) (hf : fb i = some h) (w9 : Int32) (hw9 : w9 < 0 ∨ 8 < w9) : ZB l yX5_billetIs wsX5_billetIs (zrmc 6 85 1 6) (zW ea mi sa) D T [(o, .inr (6, hsF ad lo)), (ad 7, .inr (0, [.int (kb), .ref rb, .int (nI (g))])), (rb, .inl (T 3, n, qa fb)), (h, .inr (1, biF a q u β))] [.ref o, .int (nI (i)), .int (w9)] "java/lang/IllegalArgumentException" := by
  refine z_inB (cc := cX5_billetIs) (maxL := 4) (ret := (some .int)) (by decide +kernel) rfl (Nat.le_of_ble_eq_true rfl) ?_
  intro p e s m args below meth c sl9 A hA Z hW Mz9 hl9 hE
  have Z : zC p s m args c cX5_billetIs 4 RX5 wsX5_billetIs D T A := Z
  have hx := Z.1.1
  have hb := Z.1.2.1
  have hts := Z.1.2.2.2.2
  have hin5 : ∀ w ∈ wsX50, w ∈ wsX5_billetIs := by decide +kernel
  have hinL : ∀ w ∈ wsJx4a65c0, w ∈ wsX5_billetIs := by decide +kernel
  have hin0 : ∀ w ∈ wsX00, w ∈ wsX5_billetIs := by decide +kernel
  have hX9 : ∀ w ∈ Cond.classLink RX5 51 "java/lang/IllegalArgumentException" :: Cond.initialized "java/lang/IllegalArgumentException" :: (vx_atS RX5 55 "java/lang/IllegalArgumentException" zNm).filter goodWord, w ∈ wsX5_billetIs := by decide +kernel
  have L107 := hts (.fieldLink RX5 107 "AnvilHouse$Billet" "skin" "I") (by decide +kernel)
  have L110 := hts (.fieldLink RX5 110 "AnvilHouse$Billet" "core" "I") (by decide +kernel)
  have L116 := hts (.fieldLink RX5 116 "AnvilHouse$Billet" "heats" "I") (by decide +kernel)
  have L119 := hts (.fieldLink RX5 119 "AnvilHouse$Billet" "grain" "I") (by decide +kernel)
  have L122 := hts (.fieldLink RX5 122 "AnvilHouse$Billet" "laps" "I") (by decide +kernel)
  have L125 := hts (.fieldLink RX5 125 "AnvilHouse$Billet" "cracked" "Z") (by decide +kernel)
  have L129 := hts (.fieldLink RX5 129 "AnvilHouse$Billet" "layers" "I") (by decide +kernel)
  have L132 := hts (.fieldLink RX5 132 "AnvilHouse$Billet" "load" "I") (by decide +kernel)
  have hl9 : lv_has sl9 4 [(0, .ref o), (1, .int (nI (i))), (2, .int (w9))] := hl9
  refine lv_aload_n hx hb dX5_billetIs_0 rfl (lv_at hl9 0 rfl) ?_
  refine lv_iload_n hx hb dX5_billetIs_1 rfl (lv_at hl9 1 rfl) ?_
  refine z_callVr (As := [.int (nI (i))]) (rest := []) (wc := [(o, .inr (6, hsF ad lo)), (ad 7, .inr (0, [.int (kb), .ref rb, .int (nI (g))])), (rb, .inl (T 3, n, qa fb)), (h, .inr (1, biF a q u β))]) Z Mz9 (ch_billetAt l D T o ad lo kb rb n g fb h (biF a q u β) i hi hg hn hf) (cwV 1 hts gX5_billetIs_X5_billetAt rfl rfl rfl (by decide +kernel) ⟨Nat.le_of_ble_eq_true rfl, Nat.le_of_ble_eq_true rfl⟩) [0, 1, 2, 3] rfl (by decide) (fun _ j hj => rfl) (fun _ => Nat.le_refl _) (va_recv Z.2.1 Mz9.1 (ci := 6) (q0 := 0) rfl rfl) rfl hl9.1 (Nat.le_of_ble_eq_true rfl) dX5_billetIs_2 ⟨Nat.le_of_ble_eq_true rfl, Nat.le_of_ble_eq_true rfl⟩ rfl (fun _ Hp9 lc9 Mz9 => ?_)
  have Mz9 : zM D A s.heap [(o, .inr (6, hsF ad lo)), (ad 7, .inr (0, [.int (kb), .ref rb, .int (nI (g))])), (rb, .inl (T 3, n, qa fb)), (h, .inr (1, biF a q u β))] _ _ := Mz9
  refine lv_astore_n (lv' := [(3, .ref h), (0, .ref o), (1, .int (nI (i))), (2, .int (w9))]) hx hb dX5_billetIs_5 rfl hl9 (by decide) rfl (fun sl9 hl9 => ?_)
  refine lv_iload_n hx hb dX5_billetIs_6 rfl (lv_at hl9 3 rfl) ?_
  refine lv_tableOut (tgt := 109) hx hb dX5_billetIs_7 (hw9.elim (fun h => Or.inl (Int32.lt_iff_toInt_lt.mp h)) (fun h => Or.inr (Int32.lt_iff_toInt_lt.mp h))) (by decide) ?_
  exact z_throw Z hW Mz9 hA hE hl9.1 hfl zThr_A hX9 (is := 135) (text := "what is asked is 0 to 8") (by decide +kernel) dX5_billetIs_109 dX5_billetIs_112 dX5_billetIs_113 dX5_billetIs_115 dX5_billetIs_118 (Nat.le_of_ble_eq_true rfl) (Nat.le_of_ble_eq_true rfl) ⟨Nat.le_of_ble_eq_true rfl, Nat.le_of_ble_eq_true rfl⟩ ⟨Nat.le_of_ble_eq_true rfl, Nat.le_of_ble_eq_true rfl⟩ rfl
