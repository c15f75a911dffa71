/-! ===== laid by program ===== -/
/-! ===== the house: patterns, plans, dies, steels ===== -/
set_option maxHeartbeats 4000000 in
set_option maxRecDepth 100000 in
theorem ch_fewest (l : Launch) (D : va_G) (T : Nat → ClassId) (o : Nat) (ad : Nat → Nat) (lo : Int32) (kb : Int32) (rb n g : Nat) (fb : Nat → Option Nat) (h a q u : Nat) (β : Nat → Int32) (i : Nat) (hi : i < g) (hg : g ≤ n) (hn : n ≤ 40000) (hf : fb i = some h) (f0 f1 f2 : Nat → Int32) (p9 j : Nat) (hp : p9 < 256) (hj : j < 256) (h13 : β 13 = nI p9) : ZI l yX5_fewest wsX5_fewest (zrm 4 85) D T [(o, .inr (6, hsF ad lo)), (ad 7, .inr (0, [.int (kb), .ref rb, .int (nI (g))])), (rb, .inl (T 3, n, qa fb)), (h, .inr (1, biF a q u β)), (ad 10, .inr (3, [.ref (ad 11), .ref (ad 12), .ref (ad 13)])), (ad 11, .inl (T 0, 256, .inl f0)), (ad 12, .inl (T 0, 256, .inl f1)), (ad 13, .inl (T 0, 256, .inl f2))] [(o, .inr (6, hsF ad lo)), (ad 7, .inr (0, [.int (kb), .ref rb, .int (nI (g))])), (rb, .inl (T 3, n, qa fb)), (h, .inr (1, biF a q u β)), (ad 10, .inr (3, [.ref (ad 11), .ref (ad 12), .ref (ad 13)])), (ad 11, .inl (T 0, 256, .inl ((BF f0 f2 p9).1))), (ad 12, .inl (T 0, 256, .inl (OP f0 f2 f1 p9))), (ad 13, .inl (T 0, 256, .inl ((BF f0 f2 p9).2.1)))] [.ref o, .int (nI (i)), .int (nI (j))] ((BF f0 f2 p9).1 j) 0 0 := by
  refine z_inI (cc := cX5_fewest) (maxL := 4) (rt := .int) (by decide +kernel) rfl (Nat.le_of_ble_eq_true rfl) ?_
  intro p e s m args below meth c sl9 A Q Z hnm Mz9 hl9 hret
  have Z : zC p s m args c cX5_fewest 4 RX5 wsX5_fewest D T A := Z
  have hx := Z.1.1
  have hb := Z.1.2.1
  have hts := Z.1.2.2.2.2
  have hin5 : ∀ w ∈ wsX50, w ∈ wsX5_fewest := by decide +kernel
  have hinL : ∀ w ∈ wsJx4a65c0, w ∈ wsX5_fewest := by decide +kernel
  have hin0 : ∀ w ∈ wsX00, w ∈ wsX5_fewest := by decide +kernel
  have hin2 : ∀ w ∈ wsX20, w ∈ wsX5_fewest := by decide +kernel
  have L35 := hts (.fieldLink RX5 35 "AnvilHouse" "patterns" "LAnvilHouse$Patterns;") (by decide +kernel)
  have L129 := hts (.fieldLink RX5 129 "AnvilHouse$Billet" "layers" "I") (by decide +kernel)
  have L284 := hts (.fieldLink RX5 284 "AnvilHouse$Patterns" "acts" "[I") (by decide +kernel)
  have hl9 : lv_has sl9 4 [(0, .ref o), (1, .int (nI (i))), (2, .int (nI (j)))] := hl9
  refine lv_aload_n hx hb dX5_fewest_0 rfl (lv_at hl9 0 rfl) ?_
  refine lv_iload_n hx hb dX5_fewest_1 rfl (lv_at hl9 1 rfl) ?_
  refine z_callVr (As := [.int (nI (i))]) (rest := []) (wc := [(o, .inr (6, hsF ad lo)), (ad 7, .inr (0, [.int (kb), .ref rb, .int (nI (g))])), (rb, .inl (T 3, n, qa fb)), (h, .inr (1, biF a q u β))]) Z Mz9 (ch_billetAt l D T o ad lo kb rb n g fb h (biF a q u β) i hi hg hn hf) (cwV 1 hts gX5_fewest_X5_billetAt rfl rfl rfl (by decide +kernel) ⟨Nat.le_of_ble_eq_true rfl, Nat.le_of_ble_eq_true rfl⟩) [0, 1, 2, 3] rfl (by decide) (fun _ j hj => rfl) (fun _ => Nat.le_refl _) (va_recv Z.2.1 Mz9.1 (ci := 6) (q0 := 0) rfl rfl) rfl hl9.1 (Nat.le_of_ble_eq_true rfl) dX5_fewest_2 ⟨Nat.le_of_ble_eq_true rfl, Nat.le_of_ble_eq_true rfl⟩ rfl (fun _ Hp9 lc9 Mz9 => ?_)
  have Mz9 : zM D A s.heap [(o, .inr (6, hsF ad lo)), (ad 7, .inr (0, [.int (kb), .ref rb, .int (nI (g))])), (rb, .inl (T 3, n, qa fb)), (h, .inr (1, biF a q u β)), (ad 10, .inr (3, [.ref (ad 11), .ref (ad 12), .ref (ad 13)])), (ad 11, .inl (T 0, 256, .inl f0)), (ad 12, .inl (T 0, 256, .inl f1)), (ad 13, .inl (T 0, 256, .inl f2))] _ _ := Mz9
  refine lv_astore_n (lv' := [(3, .ref h), (0, .ref o), (1, .int (nI (i))), (2, .int (nI (j)))]) hx hb dX5_fewest_5 rfl hl9 (by decide) rfl (fun sl9 hl9 => ?_)
  refine lv_iload_n hx hb dX5_fewest_6 rfl (lv_at hl9 3 rfl) ?_
  refine z_callSv (As := [.int (nI (j))]) (rest := []) (wc := []) (wc' := []) Z Mz9 (ch_refuseNoPattern l D T (j) hj) (va_cwS 1 hts gX5_fewest_X5_refuseNoPattern rfl rfl rfl (by decide +kernel) ⟨Nat.le_of_ble_eq_true rfl, Nat.le_of_ble_eq_true rfl⟩) [] rfl (by decide) (fun j hj => rfl) (Nat.le_refl _) rfl hl9.1 (Nat.le_of_ble_eq_true rfl) dX5_fewest_7 ⟨Nat.le_of_ble_eq_true rfl, Nat.le_of_ble_eq_true rfl⟩ rfl (fun Hp9 lc9 Mz9 => ?_)
  have Mz9 : zM D A s.heap [(o, .inr (6, hsF ad lo)), (ad 7, .inr (0, [.int (kb), .ref rb, .int (nI (g))])), (rb, .inl (T 3, n, qa fb)), (h, .inr (1, biF a q u β)), (ad 10, .inr (3, [.ref (ad 11), .ref (ad 12), .ref (ad 13)])), (ad 11, .inl (T 0, 256, .inl f0)), (ad 12, .inl (T 0, 256, .inl f1)), (ad 13, .inl (T 0, 256, .inl f2))] _ _ := Mz9
  refine lv_aload_n hx hb dX5_fewest_10 rfl (lv_at hl9 1 rfl) ?_
  refine z_getf Z Mz9 hin5 0 rfl rfl 6 (by decide) L35 rfl (v := .ref (ad 10)) rfl dX5_fewest_11 ?_
  refine lv_aload_n hx hb dX5_fewest_14 rfl (lv_at hl9 0 rfl) ?_
  refine z_getf Z Mz9 hin0 3 rfl rfl 13 (by decide) L129 rfl (v := .int (β 13)) rfl dX5_fewest_15 ?_
  refine zn_top (y := nI (p9)) (h13) ?_
  refine z_callVv (As := [.int (nI (p9))]) (rest := []) (wc := ptW (ad 10) (ad 11) (ad 12) (ad 13) T f0 f1 f2) (wc' := ptW (ad 10) (ad 11) (ad 12) (ad 13) T ((BF f0 f2 p9).1) (OP f0 f2 f1 p9) ((BF f0 f2 p9).2.1)) Z Mz9 (cb_exploreFrom l D T (ad 10) (ad 11) (ad 12) (ad 13) f0 f1 f2 p9 hp) (cwV 1 hts gX5_fewest_X2_exploreFrom rfl rfl rfl (by decide +kernel) ⟨Nat.le_of_ble_eq_true rfl, Nat.le_of_ble_eq_true rfl⟩) [4, 5, 6, 7] rfl (by decide) (fun j hj => rfl) (Nat.le_refl _) (va_recv Z.2.1 Mz9.1 (ci := 3) (q0 := 4) rfl rfl) rfl hl9.1 (Nat.le_of_ble_eq_true rfl) dX5_fewest_18 ⟨Nat.le_of_ble_eq_true rfl, Nat.le_of_ble_eq_true rfl⟩ rfl (fun Hp9 lc9 Mz9 => ?_)
  have Mz9 : zM D A s.heap [(o, .inr (6, hsF ad lo)), (ad 7, .inr (0, [.int (kb), .ref rb, .int (nI (g))])), (rb, .inl (T 3, n, qa fb)), (h, .inr (1, biF a q u β)), (ad 10, .inr (3, [.ref (ad 11), .ref (ad 12), .ref (ad 13)])), (ad 11, .inl (T 0, 256, .inl ((BF f0 f2 p9).1))), (ad 12, .inl (T 0, 256, .inl (OP f0 f2 f1 p9))), (ad 13, .inl (T 0, 256, .inl ((BF f0 f2 p9).2.1)))] _ _ := Mz9
  refine lv_aload_n hx hb dX5_fewest_21 rfl (lv_at hl9 1 rfl) ?_
  refine z_getf Z Mz9 hin5 0 rfl rfl 6 (by decide) L35 rfl (v := .ref (ad 10)) rfl dX5_fewest_22 ?_
  refine z_getf Z Mz9 hin2 4 rfl rfl 0 (by decide) L284 rfl (v := .ref (ad 11)) rfl dX5_fewest_25 ?_
  refine lv_iload_n hx hb dX5_fewest_28 rfl (lv_at hl9 3 rfl) ?_
  refine z_iald Z Mz9 5 (h0 := ad 11) (n := 256) (f := (BF f0 f2 p9).1) rfl (j := j) (by omega) (by decide) dX5_fewest_29 ?_
  exact hret _ _ _ _ _ sl9 _ _ Mz9 (rfl) (rfl) (rfl) (Nat.le_of_ble_eq_true rfl) (Nat.le_of_ble_eq_true rfl) dX5_fewest_30
set_option maxHeartbeats 4000000 in
set_option maxRecDepth 100000 in
theorem ch_fewest_b (l : Launch) (hfl : l.stackTraces = false) (D : va_G) (T : Nat → ClassId) (ea mi : Nat) (sa : Nat → Nat) (o : Nat) (ad : Nat → Nat) (lo : Int32) (kb : Int32) (rb g : Nat) (v : Int32) (t : Int32) (hv9 : v < 0 ∨ nI g ≤ v) : ZB l yX5_fewest wsX5_fewest (zrmc 7 103 1 6) (zW ea mi sa) D T [(o, .inr (6, hsF ad lo)), (ad 7, .inr (0, [.int (kb), .ref rb, .int (nI (g))]))] [.ref o, .int (v), .int (t)] "java/lang/IndexOutOfBoundsException" := by
  refine z_inB (cc := cX5_fewest) (maxL := 4) (ret := (some .int)) (by decide +kernel) rfl (Nat.le_of_ble_eq_true rfl) ?_
  intro p e s m args below meth c sl9 A hA Z hW Mz9 hl9 hE
  have Z : zC p s m args c cX5_fewest 4 RX5 wsX5_fewest D T A := Z
  have hx := Z.1.1
  have hb := Z.1.2.1
  have hts := Z.1.2.2.2.2
  have hin5 : ∀ w ∈ wsX50, w ∈ wsX5_fewest := by decide +kernel
  have hinL : ∀ w ∈ wsJx4a65c0, w ∈ wsX5_fewest := by decide +kernel
  have hin0 : ∀ w ∈ wsX00, w ∈ wsX5_fewest := by decide +kernel
  have hin2 : ∀ w ∈ wsX20, w ∈ wsX5_fewest := by decide +kernel
  have L35 := hts (.fieldLink RX5 35 "AnvilHouse" "patterns" "LAnvilHouse$Patterns;") (by decide +kernel)
  have L129 := hts (.fieldLink RX5 129 "AnvilHouse$Billet" "layers" "I") (by decide +kernel)
  have L284 := hts (.fieldLink RX5 284 "AnvilHouse$Patterns" "acts" "[I") (by decide +kernel)
  have hl9 : lv_has sl9 4 [(0, .ref o), (1, .int (v)), (2, .int (t))] := hl9
  refine lv_aload_n hx hb dX5_fewest_0 rfl (lv_at hl9 0 rfl) ?_
  refine lv_iload_n hx hb dX5_fewest_1 rfl (lv_at hl9 1 rfl) ?_
  exact z_callB (As := [.int (v)]) (rest := []) (wc := [(o, .inr (6, hsF ad lo)), (ad 7, .inr (0, [.int (kb), .ref rb, .int (nI (g))]))]) (zW_k ea mi sa) hW Z Mz9 hA hE (ch_billetAt_bad l hfl D T ea mi sa o ad lo kb rb g v hv9) (cwV 1 hts gX5_fewest_X5_billetAt rfl rfl rfl (by decide +kernel) ⟨Nat.le_of_ble_eq_true rfl, Nat.le_of_ble_eq_true rfl⟩) [0, 1] rfl (by decide) (va_recv Z.2.1 Mz9.1 (ci := 6) (q0 := 0) rfl rfl) rfl hl9.1 (Nat.le_of_ble_eq_true rfl) dX5_fewest_2 ⟨Nat.le_of_ble_eq_true rfl, Nat.le_of_ble_eq_true rfl⟩ ⟨Nat.le_of_ble_eq_true rfl, Nat.le_of_ble_eq_true rfl⟩ rfl rfl
set_option maxHeartbeats 4000000 in
set_option maxRecDepth 100000 in
theorem ch_fewest_p (l : Launch) (hfl : l.stackTraces = false) (D : va_G) (T : Nat → ClassId) (ea mi : Nat) (sa : Nat → Nat) (o : Nat) (ad : Nat → Nat) (lo : Int32) (kb : Int32) (rb n g : Nat) (fb : Nat → Option Nat) (h a q u : Nat) (β : Nat → Int32) (i : Nat) (hi : i < g) (hg : g ≤ n) (hn : n ≤ 40000) (hf : fb i = some h) (v : Int32) (hv9 : v < 0 ∨ 256 ≤ v) : ZB l yX5_fewest wsX5_fewest (zrmc 7 102 1 6) (zW ea mi sa) D T [(o, .inr (6, hsF ad lo)), (ad 7, .inr (0, [.int (kb), .ref rb, .int (nI (g))])), (rb, .inl (T 3, n, qa fb)), (h, .inr (1, biF a q u β))] [.ref o, .int (nI (i)), .int (v)] "java/lang/IllegalArgumentException" := by
  refine z_inB (cc := cX5_fewest) (maxL := 4) (ret := (some .int)) (by decide +kernel) rfl (Nat.le_of_ble_eq_true rfl) ?_
  intro p e s m args below meth c sl9 A hA Z hW Mz9 hl9 hE
  have Z : zC p s m args c cX5_fewest 4 RX5 wsX5_fewest D T A := Z
  have hx := Z.1.1
  have hb := Z.1.2.1
  have hts := Z.1.2.2.2.2
  have hin5 : ∀ w ∈ wsX50, w ∈ wsX5_fewest := by decide +kernel
  have hinL : ∀ w ∈ wsJx4a65c0, w ∈ wsX5_fewest := by decide +kernel
  have hin0 : ∀ w ∈ wsX00, w ∈ wsX5_fewest := by decide +kernel
  have hin2 : ∀ w ∈ wsX20, w ∈ wsX5_fewest := by decide +kernel
  have L35 := hts (.fieldLink RX5 35 "AnvilHouse" "patterns" "LAnvilHouse$Patterns;") (by decide +kernel)
  have L129 := hts (.fieldLink RX5 129 "AnvilHouse$Billet" "layers" "I") (by decide +kernel)
  have L284 := hts (.fieldLink RX5 284 "AnvilHouse$Patterns" "acts" "[I") (by decide +kernel)
  have hl9 : lv_has sl9 4 [(0, .ref o), (1, .int (nI (i))), (2, .int (v))] := hl9
  refine lv_aload_n hx hb dX5_fewest_0 rfl (lv_at hl9 0 rfl) ?_
  refine lv_iload_n hx hb dX5_fewest_1 rfl (lv_at hl9 1 rfl) ?_
  refine z_callVr (As := [.int (nI (i))]) (rest := []) (wc := [(o, .inr (6, hsF ad lo)), (ad 7, .inr (0, [.int (kb), .ref rb, .int (nI (g))])), (rb, .inl (T 3, n, qa fb)), (h, .inr (1, biF a q u β))]) Z Mz9 (ch_billetAt l D T o ad lo kb rb n g fb h (biF a q u β) i hi hg hn hf) (cwV 1 hts gX5_fewest_X5_billetAt rfl rfl rfl (by decide +kernel) ⟨Nat.le_of_ble_eq_true rfl, Nat.le_of_ble_eq_true rfl⟩) [0, 1, 2, 3] rfl (by decide) (fun _ j hj => rfl) (fun _ => Nat.le_refl _) (va_recv Z.2.1 Mz9.1 (ci := 6) (q0 := 0) rfl rfl) rfl hl9.1 (Nat.le_of_ble_eq_true rfl) dX5_fewest_2 ⟨Nat.le_of_ble_eq_true rfl, Nat.le_of_ble_eq_true rfl⟩ rfl (fun _ Hp9 lc9 Mz9 => ?_)
  have Mz9 : zM D A s.heap [(o, .inr (6, hsF ad lo)), (ad 7, .inr (0, [.int (kb), .ref rb, .int (nI (g))])), (rb, .inl (T 3, n, qa fb)), (h, .inr (1, biF a q u β))] _ _ := Mz9
  refine lv_astore_n (lv' := [(3, .ref h), (0, .ref o), (1, .int (nI (i))), (2, .int (v))]) hx hb dX5_fewest_5 rfl hl9 (by decide) rfl (fun sl9 hl9 => ?_)
  refine lv_iload_n hx hb dX5_fewest_6 rfl (lv_at hl9 3 rfl) ?_
  exact z_callSB (As := [.int (v)]) (rest := []) (wc := []) (zW_k ea mi sa) hW Z Mz9 hA hE (ch_refuseNoPattern_bad l hfl D T ea mi sa v hv9) (va_cwS 1 hts gX5_fewest_X5_refuseNoPattern rfl rfl rfl (by decide +kernel) ⟨Nat.le_of_ble_eq_true rfl, Nat.le_of_ble_eq_true rfl⟩) [] rfl (by decide) rfl hl9.1 (Nat.le_of_ble_eq_true rfl) dX5_fewest_7 ⟨Nat.le_of_ble_eq_true rfl, Nat.le_of_ble_eq_true rfl⟩ ⟨Nat.le_of_ble_eq_true rfl, Nat.le_of_ble_eq_true rfl⟩ rfl rfl
set_option maxHeartbeats 4000000 in
set_option maxRecDepth 100000 in
theorem ch_first (l : Launch) (D : va_G) (T : Nat → ClassId) (o : Nat) (ad : Nat → Nat) (lo : Int32) (kb : Int32) (rb n g : Nat) (fb : Nat → Option Nat) (h a q u : Nat) (β : Nat → Int32) (i : Nat) (hi : i < g) (hg : g ≤ n) (hn : n ≤ 40000) (hf : fb i = some h) (f0 f1 f2 : Nat → Int32) (p9 j : Nat) (hp : p9 < 256) (hj : j < 256) (h13 : β 13 = nI p9) : ZI l yX5_first wsX5_first (zrm 4 85) D T [(o, .inr (6, hsF ad lo)), (ad 7, .inr (0, [.int (kb), .ref rb, .int (nI (g))])), (rb, .inl (T 3, n, qa fb)), (h, .inr (1, biF a q u β)), (ad 10, .inr (3, [.ref (ad 11), .ref (ad 12), .ref (ad 13)])), (ad 11, .inl (T 0, 256, .inl f0)), (ad 12, .inl (T 0, 256, .inl f1)), (ad 13, .inl (T 0, 256, .inl f2))] [(o, .inr (6, hsF ad lo)), (ad 7, .inr (0, [.int (kb), .ref rb, .int (nI (g))])), (rb, .inl (T 3, n, qa fb)), (h, .inr (1, biF a q u β)), (ad 10, .inr (3, [.ref (ad 11), .ref (ad 12), .ref (ad 13)])), (ad 11, .inl (T 0, 256, .inl ((BF f0 f2 p9).1))), (ad 12, .inl (T 0, 256, .inl (OP f0 f2 f1 p9))), (ad 13, .inl (T 0, 256, .inl ((BF f0 f2 p9).2.1)))] [.ref o, .int (nI (i)), .int (nI (j))] (OP f0 f2 f1 p9 j) 0 0 := by
  refine z_inI (cc := cX5_first) (maxL := 4) (rt := .int) (by decide +kernel) rfl (Nat.le_of_ble_eq_true rfl) ?_
  intro p e s m args below meth c sl9 A Q Z hnm Mz9 hl9 hret
  have Z : zC p s m args c cX5_first 4 RX5 wsX5_first D T A := Z
  have hx := Z.1.1
  have hb := Z.1.2.1
  have hts := Z.1.2.2.2.2
  have hin5 : ∀ w ∈ wsX50, w ∈ wsX5_first := by decide +kernel
  have hinL : ∀ w ∈ wsJx4a65c0, w ∈ wsX5_first := by decide +kernel
  have hin0 : ∀ w ∈ wsX00, w ∈ wsX5_first := by decide +kernel
  have hin2 : ∀ w ∈ wsX20, w ∈ wsX5_first := by decide +kernel
  have L35 := hts (.fieldLink RX5 35 "AnvilHouse" "patterns" "LAnvilHouse$Patterns;") (by decide +kernel)
  have L129 := hts (.fieldLink RX5 129 "AnvilHouse$Billet" "layers" "I") (by decide +kernel)
  have L287 := hts (.fieldLink RX5 287 "AnvilHouse$Patterns" "openings" "[I") (by decide +kernel)
  have hl9 : lv_has sl9 4 [(0, .ref o), (1, .int (nI (i))), (2, .int (nI (j)))] := hl9
  refine lv_aload_n hx hb dX5_first_0 rfl (lv_at hl9 0 rfl) ?_
  refine lv_iload_n hx hb dX5_first_1 rfl (lv_at hl9 1 rfl) ?_
  refine z_callVr (As := [.int (nI (i))]) (rest := []) (wc := [(o, .inr (6, hsF ad lo)), (ad 7, .inr (0, [.int (kb), .ref rb, .int (nI (g))])), (rb, .inl (T 3, n, qa fb)), (h, .inr (1, biF a q u β))]) Z Mz9 (ch_billetAt l D T o ad lo kb rb n g fb h (biF a q u β) i hi hg hn hf) (cwV 1 hts gX5_first_X5_billetAt rfl rfl rfl (by decide +kernel) ⟨Nat.le_of_ble_eq_true rfl, Nat.le_of_ble_eq_true rfl⟩) [0, 1, 2, 3] rfl (by decide) (fun _ j hj => rfl) (fun _ => Nat.le_refl _) (va_recv Z.2.1 Mz9.1 (ci := 6) (q0 := 0) rfl rfl) rfl hl9.1 (Nat.le_of_ble_eq_true rfl) dX5_first_2 ⟨Nat.le_of_ble_eq_true rfl, Nat.le_of_ble_eq_true rfl⟩ rfl (fun _ Hp9 lc9 Mz9 => ?_)
  have Mz9 : zM D A s.heap [(o, .inr (6, hsF ad lo)), (ad 7, .inr (0, [.int (kb), .ref rb, .int (nI (g))])), (rb, .inl (T 3, n, qa fb)), (h, .inr (1, biF a q u β)), (ad 10, .inr (3, [.ref (ad 11), .ref (ad 12), .ref (ad 13)])), (ad 11, .inl (T 0, 256, .inl f0)), (ad 12, .inl (T 0, 256, .inl f1)), (ad 13, .inl (T 0, 256, .inl f2))] _ _ := Mz9
  refine lv_astore_n (lv' := [(3, .ref h), (0, .ref o), (1, .int (nI (i))), (2, .int (nI (j)))]) hx hb dX5_first_5 rfl hl9 (by decide) rfl (fun sl9 hl9 => ?_)
  refine lv_iload_n hx hb dX5_first_6 rfl (lv_at hl9 3 rfl) ?_
  refine z_callSv (As := [.int (nI (j))]) (rest := []) (wc := []) (wc' := []) Z Mz9 (ch_refuseNoPattern l D T (j) hj) (va_cwS 1 hts gX5_first_X5_refuseNoPattern rfl rfl rfl (by decide +kernel) ⟨Nat.le_of_ble_eq_true rfl, Nat.le_of_ble_eq_true rfl⟩) [] rfl (by decide) (fun j hj => rfl) (Nat.le_refl _) rfl hl9.1 (Nat.le_of_ble_eq_true rfl) dX5_first_7 ⟨Nat.le_of_ble_eq_true rfl, Nat.le_of_ble_eq_true rfl⟩ rfl (fun Hp9 lc9 Mz9 => ?_)
  have Mz9 : zM D A s.heap [(o, .inr (6, hsF ad lo)), (ad 7, .inr (0, [.int (kb), .ref rb, .int (nI (g))])), (rb, .inl (T 3, n, qa fb)), (h, .inr (1, biF a q u β)), (ad 10, .inr (3, [.ref (ad 11), .ref (ad 12), .ref (ad 13)])), (ad 11, .inl (T 0, 256, .inl f0)), (ad 12, .inl (T 0, 256, .inl f1)), (ad 13, .inl (T 0, 256, .inl f2))] _ _ := Mz9
  refine lv_aload_n hx hb dX5_first_10 rfl (lv_at hl9 1 rfl) ?_
  refine z_getf Z Mz9 hin5 0 rfl rfl 6 (by decide) L35 rfl (v := .ref (ad 10)) rfl dX5_first_11 ?_
  refine lv_aload_n hx hb dX5_first_14 rfl (lv_at hl9 0 rfl) ?_
  refine z_getf Z Mz9 hin0 3 rfl rfl 13 (by decide) L129 rfl (v := .int (β 13)) rfl dX5_first_15 ?_
  refine zn_top (y := nI (p9)) (h13) ?_
  refine z_callVv (As := [.int (nI (p9))]) (rest := []) (wc := ptW (ad 10) (ad 11) (ad 12) (ad 13) T f0 f1 f2) (wc' := ptW (ad 10) (ad 11) (ad 12) (ad 13) T ((BF f0 f2 p9).1) (OP f0 f2 f1 p9) ((BF f0 f2 p9).2.1)) Z Mz9 (cb_exploreFrom l D T (ad 10) (ad 11) (ad 12) (ad 13) f0 f1 f2 p9 hp) (cwV 1 hts gX5_first_X2_exploreFrom rfl rfl rfl (by decide +kernel) ⟨Nat.le_of_ble_eq_true rfl, Nat.le_of_ble_eq_true rfl⟩) [4, 5, 6, 7] rfl (by decide) (fun j hj => rfl) (Nat.le_refl _) (va_recv Z.2.1 Mz9.1 (ci := 3) (q0 := 4) rfl rfl) rfl hl9.1 (Nat.le_of_ble_eq_true rfl) dX5_first_18 ⟨Nat.le_of_ble_eq_true rfl, Nat.le_of_ble_eq_true rfl⟩ rfl (fun Hp9 lc9 Mz9 => ?_)
  have Mz9 : zM D A s.heap [(o, .inr (6, hsF ad lo)), (ad 7, .inr (0, [.int (kb), .ref rb, .int (nI (g))])), (rb, .inl (T 3, n, qa fb)), (h, .inr (1, biF a q u β)), (ad 10, .inr (3, [.ref (ad 11), .ref (ad 12), .ref (ad 13)])), (ad 11, .inl (T 0, 256, .inl ((BF f0 f2 p9).1))), (ad 12, .inl (T 0, 256, .inl (OP f0 f2 f1 p9))), (ad 13, .inl (T 0, 256, .inl ((BF f0 f2 p9).2.1)))] _ _ := Mz9
  refine lv_aload_n hx hb dX5_first_21 rfl (lv_at hl9 1 rfl) ?_
  refine z_getf Z Mz9 hin5 0 rfl rfl 6 (by decide) L35 rfl (v := .ref (ad 10)) rfl dX5_first_22 ?_
  refine z_getf Z Mz9 hin2 4 rfl rfl 1 (by decide) L287 rfl (v := .ref (ad 12)) rfl dX5_first_25 ?_
  refine lv_iload_n hx hb dX5_first_28 rfl (lv_at hl9 3 rfl) ?_
  refine z_iald Z Mz9 6 (h0 := ad 12) (n := 256) (f := OP f0 f2 f1 p9) rfl (j := j) (by omega) (by decide) dX5_first_29 ?_
  exact hret _ _ _ _ _ sl9 _ _ Mz9 (rfl) (rfl) (rfl) (Nat.le_of_ble_eq_true rfl) (Nat.le_of_ble_eq_true rfl) dX5_first_30
set_option maxHeartbeats 4000000 in
set_option maxRecDepth 100000 in
theorem ch_first_b (l : Launch) (hfl : l.stackTraces = false) (D : va_G) (T : Nat → ClassId) (ea mi : Nat) (sa : Nat → Nat) (o : Nat) (ad : Nat → Nat) (lo : Int32) (kb : Int32) (rb g : Nat) (v : Int32) (t : Int32) (hv9 : v < 0 ∨ nI g ≤ v) : ZB l yX5_first wsX5_first (zrmc 7 103 1 6) (zW ea mi sa) D T [(o, .inr (6, hsF ad lo)), (ad 7, .inr (0, [.int (kb), .ref rb, .int (nI (g))]))] [.ref o, .int (v), .int (t)] "java/lang/IndexOutOfBoundsException" := by
  refine z_inB (cc := cX5_first) (maxL := 4) (ret := (some .int)) (by decide +kernel) rfl (Nat.le_of_ble_eq_true rfl) ?_
  intro p e s m args below meth c sl9 A hA Z hW Mz9 hl9 hE
  have Z : zC p s m args c cX5_first 4 RX5 wsX5_first D T A := Z
  have hx := Z.1.1
  have hb := Z.1.2.1
  have hts := Z.1.2.2.2.2
  have hin5 : ∀ w ∈ wsX50, w ∈ wsX5_first := by decide +kernel
  have hinL : ∀ w ∈ wsJx4a65c0, w ∈ wsX5_first := by decide +kernel
  have hin0 : ∀ w ∈ wsX00, w ∈ wsX5_first := by decide +kernel
  have hin2 : ∀ w ∈ wsX20, w ∈ wsX5_first := by decide +kernel
  have L35 := hts (.fieldLink RX5 35 "AnvilHouse" "patterns" "LAnvilHouse$Patterns;") (by decide +kernel)
  have L129 := hts (.fieldLink RX5 129 "AnvilHouse$Billet" "layers" "I") (by decide +kernel)
  have L287 := hts (.fieldLink RX5 287 "AnvilHouse$Patterns" "openings" "[I") (by decide +kernel)
  have hl9 : lv_has sl9 4 [(0, .ref o), (1, .int (v)), (2, .int (t))] := hl9
  refine lv_aload_n hx hb dX5_first_0 rfl (lv_at hl9 0 rfl) ?_
  refine lv_iload_n hx hb dX5_first_1 rfl (lv_at hl9 1 rfl) ?_
  exact z_callB (As := [.int (v)]) (rest := []) (wc := [(o, .inr (6, hsF ad lo)), (ad 7, .inr (0, [.int (kb), .ref rb, .int (nI (g))]))]) (zW_k ea mi sa) hW Z Mz9 hA hE (ch_billetAt_bad l hfl D T ea mi sa o ad lo kb rb g v hv9) (cwV 1 hts gX5_first_X5_billetAt rfl rfl rfl (by decide +kernel) ⟨Nat.le_of_ble_eq_true rfl, Nat.le_of_ble_eq_true rfl⟩) [0, 1] rfl (by decide) (va_recv Z.2.1 Mz9.1 (ci := 6) (q0 := 0) rfl rfl) rfl hl9.1 (Nat.le_of_ble_eq_true rfl) dX5_first_2 ⟨Nat.le_of_ble_eq_true rfl, Nat.le_of_ble_eq_true rfl⟩ ⟨Nat.le_of_ble_eq_true rfl, Nat.le_of_ble_eq_true rfl⟩ rfl rfl
set_option maxHeartbeats 4000000 in
set_option maxRecDepth 100000 in
theorem ch_first_p (l : Launch) (hfl : l.stackTraces = false) (D : va_G) (T : Nat → ClassId) (ea mi : Nat) (sa : Nat → Nat) (o : Nat) (ad : Nat → Nat) (lo : Int32) (kb : Int32) (rb n g : Nat) (fb : Nat → Option Nat) (h a q u : Nat) (β : Nat → Int32) (i : Nat) (hi : i < g) (hg : g ≤ n) (hn : n ≤ 40000) (hf : fb i = some h) (v : Int32) (hv9 : v < 0 ∨ 256 ≤ v) : ZB l yX5_first wsX5_first (zrmc 7 102 1 6) (zW ea mi sa) D T [(o, .inr (6, hsF ad lo)), (ad 7, .inr (0, [.int (kb), .ref rb, .int (nI (g))])), (rb, .inl (T 3, n, qa fb)), (h, .inr (1, biF a q u β))] [.ref o, .int (nI (i)), .int (v)] "java/lang/IllegalArgumentException" := by
  refine z_inB (cc := cX5_first) (maxL := 4) (ret := (some .int)) (by decide +kernel) rfl (Nat.le_of_ble_eq_true rfl) ?_
  intro p e s m args below meth c sl9 A hA Z hW Mz9 hl9 hE
  have Z : zC p s m args c cX5_first 4 RX5 wsX5_first D T A := Z
  have hx := Z.1.1
  have hb := Z.1.2.1
  have hts := Z.1.2.2.2.2
  have hin5 : ∀ w ∈ wsX50, w ∈ wsX5_first := by decide +kernel
  have hinL : ∀ w ∈ wsJx4a65c0, w ∈ wsX5_first := by decide +kernel
  have hin0 : ∀ w ∈ wsX00, w ∈ wsX5_first := by decide +kernel
  have hin2 : ∀ w ∈ wsX20, w ∈ wsX5_first := by decide +kernel
  have L35 := hts (.fieldLink RX5 35 "AnvilHouse" "patterns" "LAnvilHouse$Patterns;") (by decide +kernel)
  have L129 := hts (.fieldLink RX5 129 "AnvilHouse$Billet" "layers" "I") (by decide +kernel)
  have L287 := hts (.fieldLink RX5 287 "AnvilHouse$Patterns" "openings" "[I") (by decide +kernel)
  have hl9 : lv_has sl9 4 [(0, .ref o), (1, .int (nI (i))), (2, .int (v))] := hl9
  refine lv_aload_n hx hb dX5_first_0 rfl (lv_at hl9 0 rfl) ?_
  refine lv_iload_n hx hb dX5_first_1 rfl (lv_at hl9 1 rfl) ?_
  refine z_callVr (As := [.int (nI (i))]) (rest := []) (wc := [(o, .inr (6, hsF ad lo)), (ad 7, .inr (0, [.int (kb), .ref rb, .int (nI (g))])), (rb, .inl (T 3, n, qa fb)), (h, .inr (1, biF a q u β))]) Z Mz9 (ch_billetAt l D T o ad lo kb rb n g fb h (biF a q u β) i hi hg hn hf) (cwV 1 hts gX5_first_X5_billetAt rfl rfl rfl (by decide +kernel) ⟨Nat.le_of_ble_eq_true rfl, Nat.le_of_ble_eq_true rfl⟩) [0, 1, 2, 3] rfl (by decide) (fun _ j hj => rfl) (fun _ => Nat.le_refl _) (va_recv Z.2.1 Mz9.1 (ci := 6) (q0 := 0) rfl rfl) rfl hl9.1 (Nat.le_of_ble_eq_true rfl) dX5_first_2 ⟨Nat.le_of_ble_eq_true rfl, Nat.le_of_ble_eq_true rfl⟩ rfl (fun _ Hp9 lc9 Mz9 => ?_)
  have Mz9 : zM D A s.heap [(o, .inr (6, hsF ad lo)), (ad 7, .inr (0, [.int (kb), .ref rb, .int (nI (g))])), (rb, .inl (T 3, n, qa fb)), (h, .inr (1, biF a q u β))] _ _ := Mz9
  refine lv_astore_n (lv' := [(3, .ref h), (0, .ref o), (1, .int (nI (i))), (2, .int (v))]) hx hb dX5_first_5 rfl hl9 (by decide) rfl (fun sl9 hl9 => ?_)
  refine lv_iload_n hx hb dX5_first_6 rfl (lv_at hl9 3 rfl) ?_
  exact z_callSB (As := [.int (v)]) (rest := []) (wc := []) (zW_k ea mi sa) hW Z Mz9 hA hE (ch_refuseNoPattern_bad l hfl D T ea mi sa v hv9) (va_cwS 1 hts gX5_first_X5_refuseNoPattern rfl rfl rfl (by decide +kernel) ⟨Nat.le_of_ble_eq_true rfl, Nat.le_of_ble_eq_true rfl⟩) [] rfl (by decide) rfl hl9.1 (Nat.le_of_ble_eq_true rfl) dX5_first_7 ⟨Nat.le_of_ble_eq_true rfl, Nat.le_of_ble_eq_true rfl⟩ ⟨Nat.le_of_ble_eq_true rfl, Nat.le_of_ble_eq_true rfl⟩ rfl rfl
set_option maxHeartbeats 4000000 in
set_option maxRecDepth 100000 in
theorem ch_job (l : Launch) (D : va_G) (T : Nat → ClassId) (o : Nat) (ad : Nat → Nat) (lo : Int32) (ω : Nat → Int32) (wt fu : Int32) (w9 : Int32) (h1 : ¬ w9 < 200) (h2 : w9 ≤ 1300) (nj : Nat) (hnj : nj < 12) (hwt : wt = nI nj) : ZI l yX5_job wsX5_job (zrm 1 22) D T [(o, .inr (6, hsF ad lo)), (ad 14, .inr (4, [.ref (ad 15), .int (wt), .int (fu)])), (ad 15, .inl (T 0, 12, .inl ω))] [(o, .inr (6, hsF ad lo)), (ad 14, .inr (4, [.ref (ad 15), .int (nI (nj + 1)), .int (fu)])), (ad 15, .inl (T 0, 12, .inl (ins ω w9 nj)))] [.ref o, .int (w9)] (nI (nj + 1)) 0 0 := by
  refine z_inI (cc := cX5_job) (maxL := 2) (rt := .int) (by decide +kernel) rfl (Nat.le_of_ble_eq_true rfl) ?_
  intro p e s m args below meth c sl9 A Q Z hnm Mz9 hl9 hret
  have Z : zC p s m args c cX5_job 2 RX5 wsX5_job D T A := Z
  have hx := Z.1.1
  have hb := Z.1.2.1
  have hts := Z.1.2.2.2.2
  have hin5 : ∀ w ∈ wsX50, w ∈ wsX5_job := by decide +kernel
  have hin3 : ∀ w ∈ wsX30, w ∈ wsX5_job := by decide +kernel
  have L42 := hts (.fieldLink RX5 42 "AnvilHouse" "plan" "LAnvilHouse$Plan;") (by decide +kernel)
  have L292 := hts (.fieldLink RX5 292 "AnvilHouse$Plan" "waiting" "I") (by decide +kernel)
  have hl9 : lv_has sl9 2 [(0, .ref o), (1, .int (w9))] := hl9
  refine lv_iload_n hx hb dX5_job_0 rfl (lv_at hl9 1 rfl) ?_
  refine lv_sipush (v := 200) hx hb dX5_job_1 (by decide) ?_
  refine lv_icmp_lt (tgt := 14) hx hb dX5_job_4 (by decide) (fun h => absurd h (h1)) (fun _ => ?_)
  refine lv_iload_n hx hb dX5_job_7 rfl (lv_at hl9 1 rfl) ?_
  refine lv_sipush (v := 1300) hx hb dX5_job_8 (by decide) ?_
  refine lv_icmp_le (tgt := 25) hx hb dX5_job_11 (by decide) (fun _ => ?_) (fun h => absurd h (fun z => z h2))
  refine lv_aload_n hx hb dX5_job_25 rfl (lv_at hl9 0 rfl) ?_
  refine z_getf Z Mz9 hin5 0 rfl rfl 7 (by decide) L42 rfl (v := .ref (ad 14)) rfl dX5_job_26 ?_
  refine z_getf Z Mz9 hin3 1 rfl rfl 1 (by decide) L292 rfl (v := .int (wt)) rfl dX5_job_29 ?_
  refine zn_top (y := nI (nj)) (hwt) ?_
  refine lv_bipush (v := 12) hx hb dX5_job_32 (by decide) ?_
  refine zn_icmp_lt (a := nj) (b := 12) (tgt := 48) (by omega) (by decide) hx hb dX5_job_34 (by decide) (fun _ => ?_) (fun h => absurd h (by omega))
  refine lv_aload_n hx hb dX5_job_48 rfl (lv_at hl9 0 rfl) ?_
  refine z_getf Z Mz9 hin5 0 rfl rfl 7 (by decide) L42 rfl (v := .ref (ad 14)) rfl dX5_job_49 ?_
  refine lv_iload_n hx hb dX5_job_52 rfl (lv_at hl9 1 rfl) ?_
  refine z_callVv (As := [.int (w9)]) (rest := []) (wc := plW (ad 14) (ad 15) T ω wt fu) (wc' := plW (ad 14) (ad 15) T (ins ω w9 nj) (nI (nj + 1)) fu) Z Mz9 (cb_add l D T (ad 14) (ad 15) ω wt fu nj hnj hwt w9) (cwV 1 hts gX5_job_X3_add rfl rfl rfl (by decide +kernel) ⟨Nat.le_of_ble_eq_true rfl, Nat.le_of_ble_eq_true rfl⟩) [1, 2] rfl (by decide) (fun j hj => rfl) (Nat.le_refl _) (va_recv Z.2.1 Mz9.1 (ci := 4) (q0 := 1) rfl rfl) rfl hl9.1 (Nat.le_of_ble_eq_true rfl) dX5_job_53 ⟨Nat.le_of_ble_eq_true rfl, Nat.le_of_ble_eq_true rfl⟩ rfl (fun Hp9 lc9 Mz9 => ?_)
  have Mz9 : zM D A s.heap [(o, .inr (6, hsF ad lo)), (ad 14, .inr (4, [.ref (ad 15), .int (nI (nj + 1)), .int (fu)])), (ad 15, .inl (T 0, 12, .inl (ins ω w9 nj)))] _ _ := Mz9
  refine lv_aload_n hx hb dX5_job_56 rfl (lv_at hl9 0 rfl) ?_
  refine z_getf Z Mz9 hin5 0 rfl rfl 7 (by decide) L42 rfl (v := .ref (ad 14)) rfl dX5_job_57 ?_
  refine z_getf Z Mz9 hin3 1 rfl rfl 1 (by decide) L292 rfl (v := .int (nI (nj + 1))) rfl dX5_job_60 ?_
  exact hret _ _ _ _ _ sl9 _ _ Mz9 (rfl) (rfl) (rfl) (Nat.le_of_ble_eq_true rfl) (Nat.le_of_ble_eq_true rfl) dX5_job_63
set_option maxHeartbeats 4000000 in
set_option maxRecDepth 100000 in
theorem ch_job_a (l : Launch) (hfl : l.stackTraces = false) (D : va_G) (T : Nat → ClassId) (ea mi : Nat) (sa : Nat → Nat) (o : Nat) (ad : Nat → Nat) (lo : Int32) (ω : Nat → Int32) (wt fu : Int32) (w9 : Int32) (hv9 : w9 < 200 ∨ 1300 < w9) : ZB l yX5_job wsX5_job (zrmc 6 82 1 6) (zW ea mi sa) D T [(o, .inr (6, hsF ad lo)), (ad 14, .inr (4, [.ref (ad 15), .int (wt), .int (fu)])), (ad 15, .inl (T 0, 12, .inl ω))] [.ref o, .int (w9)] "java/lang/IllegalArgumentException" := by
  refine z_inB (cc := cX5_job) (maxL := 2) (ret := (some .int)) (by decide +kernel) rfl (Nat.le_of_ble_eq_true rfl) ?_
  intro p e s m args below meth c sl9 A hA Z hW Mz9 hl9 hE
  have Z : zC p s m args c cX5_job 2 RX5 wsX5_job D T A := Z
  have hx := Z.1.1
  have hb := Z.1.2.1
  have hts := Z.1.2.2.2.2
  have hin5 : ∀ w ∈ wsX50, w ∈ wsX5_job := by decide +kernel
  have hin3 : ∀ w ∈ wsX30, w ∈ wsX5_job := by decide +kernel
  have hX9 : ∀ w ∈ Cond.classLink RX5 51 "java/lang/IllegalArgumentException" :: Cond.initialized "java/lang/IllegalArgumentException" :: (vx_atS RX5 55 "java/lang/IllegalArgumentException" zNm).filter goodWord, w ∈ wsX5_job := by decide +kernel
  have L42 := hts (.fieldLink RX5 42 "AnvilHouse" "plan" "LAnvilHouse$Plan;") (by decide +kernel)
  have L292 := hts (.fieldLink RX5 292 "AnvilHouse$Plan" "waiting" "I") (by decide +kernel)
  have hl9 : lv_has sl9 2 [(0, .ref o), (1, .int (w9))] := hl9
  refine lv_iload_n hx hb dX5_job_0 rfl (lv_at hl9 1 rfl) ?_
  refine lv_sipush (v := 200) hx hb dX5_job_1 (by decide) ?_
  refine lv_icmp_lt (tgt := 14) hx hb dX5_job_4 (by decide) (fun c_1 => ?_) (fun c_1 => ?_)
  ·
    exact z_throwW Z hW Mz9 hA hE hl9.1 hfl zThr_A hX9 (is := 290) (text := "a job is of 200 to 1300") (by decide +kernel) dX5_job_14 dX5_job_17 dX5_job_18 dX5_job_21 dX5_job_24 (Nat.le_of_ble_eq_true rfl) (Nat.le_of_ble_eq_true rfl) ⟨Nat.le_of_ble_eq_true rfl, Nat.le_of_ble_eq_true rfl⟩ ⟨Nat.le_of_ble_eq_true rfl, Nat.le_of_ble_eq_true rfl⟩ rfl
  ·
    refine lv_iload_n hx hb dX5_job_7 rfl (lv_at hl9 1 rfl) ?_
    refine lv_sipush (v := 1300) hx hb dX5_job_8 (by decide) ?_
    refine lv_icmp_le (tgt := 25) hx hb dX5_job_11 (by decide) (fun c_2 => ?_) (fun c_2 => ?_)
    ·
      exact False.elim (by rcases hv9 with h | h <;> first | exact absurd h c_1 | exact absurd c_1 h | exact absurd h (Int32.not_lt.mpr c_1) | exact absurd (Int32.not_le.mp c_1) (Int32.not_lt.mpr h) | exact absurd c_1 (Int32.not_lt.mpr h) | exact absurd h c_2 | exact absurd c_2 h | exact absurd h (Int32.not_lt.mpr c_2) | exact absurd (Int32.not_le.mp c_2) (Int32.not_lt.mpr h) | exact absurd c_2 (Int32.not_lt.mpr h))
    ·
      exact z_throwW Z hW Mz9 hA hE hl9.1 hfl zThr_A hX9 (is := 290) (text := "a job is of 200 to 1300") (by decide +kernel) dX5_job_14 dX5_job_17 dX5_job_18 dX5_job_21 dX5_job_24 (Nat.le_of_ble_eq_true rfl) (Nat.le_of_ble_eq_true rfl) ⟨Nat.le_of_ble_eq_true rfl, Nat.le_of_ble_eq_true rfl⟩ ⟨Nat.le_of_ble_eq_true rfl, Nat.le_of_ble_eq_true rfl⟩ rfl
set_option maxHeartbeats 4000000 in
set_option maxRecDepth 100000 in
theorem ch_job_w (l : Launch) (hfl : l.stackTraces = false) (D : va_G) (T : Nat → ClassId) (ea mi : Nat) (sa : Nat → Nat) (o : Nat) (ad : Nat → Nat) (lo : Int32) (ω : Nat → Int32) (wt fu : Int32) (w9 : Int32) (h1 : ¬ w9 < 200) (h2 : w9 ≤ 1300) (nj : Nat) (hnj : 12 ≤ nj ∧ nj < 2 ^ 31) (hwt : wt = nI nj) : ZB l yX5_job wsX5_job (zrmc 6 82 1 6) (zW ea mi sa) D T [(o, .inr (6, hsF ad lo)), (ad 14, .inr (4, [.ref (ad 15), .int (wt), .int (fu)])), (ad 15, .inl (T 0, 12, .inl ω))] [.ref o, .int (w9)] "java/lang/IllegalStateException" := by
  refine z_inB (cc := cX5_job) (maxL := 2) (ret := (some .int)) (by decide +kernel) rfl (Nat.le_of_ble_eq_true rfl) ?_
  intro p e s m args below meth c sl9 A hA Z hW Mz9 hl9 hE
  have Z : zC p s m args c cX5_job 2 RX5 wsX5_job D T A := Z
  have hx := Z.1.1
  have hb := Z.1.2.1
  have hts := Z.1.2.2.2.2
  have hin5 : ∀ w ∈ wsX50, w ∈ wsX5_job := by decide +kernel
  have hin3 : ∀ w ∈ wsX30, w ∈ wsX5_job := by decide +kernel
  have hX9 : ∀ w ∈ Cond.classLink RX5 76 "java/lang/IllegalStateException" :: Cond.initialized "java/lang/IllegalStateException" :: (vx_atS RX5 80 "java/lang/IllegalStateException" zNm).filter goodWord, w ∈ wsX5_job := by decide +kernel
  have L42 := hts (.fieldLink RX5 42 "AnvilHouse" "plan" "LAnvilHouse$Plan;") (by decide +kernel)
  have L292 := hts (.fieldLink RX5 292 "AnvilHouse$Plan" "waiting" "I") (by decide +kernel)
  have hl9 : lv_has sl9 2 [(0, .ref o), (1, .int (w9))] := hl9
  refine lv_iload_n hx hb dX5_job_0 rfl (lv_at hl9 1 rfl) ?_
  refine lv_sipush (v := 200) hx hb dX5_job_1 (by decide) ?_
  refine lv_icmp_lt (tgt := 14) hx hb dX5_job_4 (by decide) (fun h => absurd h (h1)) (fun _ => ?_)
  refine lv_iload_n hx hb dX5_job_7 rfl (lv_at hl9 1 rfl) ?_
  refine lv_sipush (v := 1300) hx hb dX5_job_8 (by decide) ?_
  refine lv_icmp_le (tgt := 25) hx hb dX5_job_11 (by decide) (fun _ => ?_) (fun h => absurd h (fun z => z h2))
  refine lv_aload_n hx hb dX5_job_25 rfl (lv_at hl9 0 rfl) ?_
  refine z_getf Z Mz9 hin5 0 rfl rfl 7 (by decide) L42 rfl (v := .ref (ad 14)) rfl dX5_job_26 ?_
  refine z_getf Z Mz9 hin3 1 rfl rfl 1 (by decide) L292 rfl (v := .int (wt)) rfl dX5_job_29 ?_
  refine zn_top (y := nI (nj)) (hwt) ?_
  refine lv_bipush (v := 12) hx hb dX5_job_32 (by decide) ?_
  refine zn_icmp_lt (a := nj) (b := 12) (tgt := 48) (by omega) (by decide) hx hb dX5_job_34 (by decide) (fun h => absurd h (by omega)) (fun _ => ?_)
  exact z_throwW Z hW Mz9 hA hE hl9.1 hfl zThr_S hX9 (is := 295) (text := "12 jobs wait") (by decide +kernel) dX5_job_37 dX5_job_40 dX5_job_41 dX5_job_44 dX5_job_47 (Nat.le_of_ble_eq_true rfl) (Nat.le_of_ble_eq_true rfl) ⟨Nat.le_of_ble_eq_true rfl, Nat.le_of_ble_eq_true rfl⟩ ⟨Nat.le_of_ble_eq_true rfl, Nat.le_of_ble_eq_true rfl⟩ rfl
set_option maxHeartbeats 4000000 in
set_option maxRecDepth 100000 in
theorem ch_planned (l : Launch) (D : va_G) (T : Nat → ClassId) (o : Nat) (ad : Nat → Nat) (lo : Int32) (ω : Nat → Int32) (wt fu : Int32) (nj : Nat) (hnj : nj ≤ 12) (hwt : wt = nI nj) (x : Nat) (h0 : 0 < nj) (hx9 : x < nj) : ZI l yX5_planned wsX5_planned (zrm 4 83) D T [(o, .inr (6, hsF ad lo)), (ad 14, .inr (4, [.ref (ad 15), .int (wt), .int (fu)])), (ad 15, .inl (T 0, 12, .inl ω))] [(o, .inr (6, hsF ad lo)), (ad 14, .inr (4, [.ref (ad 15), .int (wt), .int (fu)])), (ad 15, .inl (T 0, 12, .inl ω))] [.ref o, .int (nI (x))] (plA ω nj fu x) 0 0 := by
  refine z_inI (cc := cX5_planned) (maxL := 2) (rt := .int) (by decide +kernel) rfl (Nat.le_of_ble_eq_true rfl) ?_
  intro p e s m args below meth c sl9 A Q Z hnm Mz9 hl9 hret
  have Z : zC p s m args c cX5_planned 2 RX5 wsX5_planned D T A := Z
  have hx := Z.1.1
  have hb := Z.1.2.1
  have hts := Z.1.2.2.2.2
  have hin5 : ∀ w ∈ wsX50, w ∈ wsX5_planned := by decide +kernel
  have hin3 : ∀ w ∈ wsX30, w ∈ wsX5_planned := by decide +kernel
  have L42 := hts (.fieldLink RX5 42 "AnvilHouse" "plan" "LAnvilHouse$Plan;") (by decide +kernel)
  have hl9 : lv_has sl9 2 [(0, .ref o), (1, .int (nI (x)))] := hl9
  refine lv_iload_n hx hb dX5_planned_0 rfl (lv_at hl9 1 rfl) ?_
  refine lv_if_ge (tgt := 15) hx hb dX5_planned_1 (by decide) (fun _ => ?_) (fun h => absurd h (fun z => z (Int32.not_lt.mp (fun h => nI_pos (show x < 2 ^ 31 by omega) h))))
  refine lv_aload_n hx hb dX5_planned_15 rfl (lv_at hl9 0 rfl) ?_
  refine z_getf Z Mz9 hin5 0 rfl rfl 7 (by decide) L42 rfl (v := .ref (ad 14)) rfl dX5_planned_16 ?_
  refine lv_iload_n hx hb dX5_planned_19 rfl (lv_at hl9 1 rfl) ?_
  refine z_callVi (As := [.int (nI (x))]) (rest := []) (rv := plA ω nj fu x) (wc := plW (ad 14) (ad 15) T ω wt fu) (wc' := plW (ad 14) (ad 15) T ω wt fu) Z Mz9 (cb_warmthAt l D T (ad 14) (ad 15) ω wt fu nj hnj hwt (x) h0 hx9) (cwV 1 hts gX5_planned_X3_warmthAt rfl rfl rfl (by decide +kernel) ⟨Nat.le_of_ble_eq_true rfl, Nat.le_of_ble_eq_true rfl⟩) [1, 2] rfl (by decide) (fun j hj => rfl) (Nat.le_refl _) (va_recv Z.2.1 Mz9.1 (ci := 4) (q0 := 1) rfl rfl) rfl hl9.1 (Nat.le_of_ble_eq_true rfl) dX5_planned_20 ⟨Nat.le_of_ble_eq_true rfl, Nat.le_of_ble_eq_true rfl⟩ rfl (fun Hp9 lc9 Mz9 => ?_)
  have Mz9 : zM D A s.heap [(o, .inr (6, hsF ad lo)), (ad 14, .inr (4, [.ref (ad 15), .int (wt), .int (fu)])), (ad 15, .inl (T 0, 12, .inl ω))] _ _ := Mz9
  exact hret _ _ _ _ _ sl9 _ _ Mz9 (rfl) (rfl) (rfl) (Nat.le_of_ble_eq_true rfl) (Nat.le_of_ble_eq_true rfl) dX5_planned_23
set_option maxHeartbeats 4000000 in
set_option maxRecDepth 100000 in
theorem ch_planned_n (l : Launch) (D : va_G) (T : Nat → ClassId) (o : Nat) (ad : Nat → Nat) (lo : Int32) (ω : Nat → Int32) (wt fu : Int32) (nj : Nat) (hnj : nj ≤ 12) (hwt : wt = nI nj) (x : Nat) (hx9 : nj ≤ x) (hx8 : x < 2 ^ 31) : ZI l yX5_planned wsX5_planned (zrm 4 83) D T [(o, .inr (6, hsF ad lo)), (ad 14, .inr (4, [.ref (ad 15), .int (wt), .int (fu)])), (ad 15, .inl (T 0, 12, .inl ω))] [(o, .inr (6, hsF ad lo)), (ad 14, .inr (4, [.ref (ad 15), .int (wt), .int (fu)])), (ad 15, .inl (T 0, 12, .inl ω))] [.ref o, .int (nI (x))] (-1) 0 0 := by
  refine z_inI (cc := cX5_planned) (maxL := 2) (rt := .int) (by decide +kernel) rfl (Nat.le_of_ble_eq_true rfl) ?_
  intro p e s m args below meth c sl9 A Q Z hnm Mz9 hl9 hret
  have Z : zC p s m args c cX5_planned 2 RX5 wsX5_planned D T A := Z
  have hx := Z.1.1
  have hb := Z.1.2.1
  have hts := Z.1.2.2.2.2
  have hin5 : ∀ w ∈ wsX50, w ∈ wsX5_planned := by decide +kernel
  have hin3 : ∀ w ∈ wsX30, w ∈ wsX5_planned := by decide +kernel
  have L42 := hts (.fieldLink RX5 42 "AnvilHouse" "plan" "LAnvilHouse$Plan;") (by decide +kernel)
  have hl9 : lv_has sl9 2 [(0, .ref o), (1, .int (nI (x)))] := hl9
  refine lv_iload_n hx hb dX5_planned_0 rfl (lv_at hl9 1 rfl) ?_
  refine lv_if_ge (tgt := 15) hx hb dX5_planned_1 (by decide) (fun _ => ?_) (fun h => absurd h (fun z => z (Int32.not_lt.mp (fun h => nI_pos (show x < 2 ^ 31 by omega) h))))
  refine lv_aload_n hx hb dX5_planned_15 rfl (lv_at hl9 0 rfl) ?_
  refine z_getf Z Mz9 hin5 0 rfl rfl 7 (by decide) L42 rfl (v := .ref (ad 14)) rfl dX5_planned_16 ?_
  refine lv_iload_n hx hb dX5_planned_19 rfl (lv_at hl9 1 rfl) ?_
  refine z_callVi (As := [.int (nI (x))]) (rest := []) (rv := (-1)) (wc := plW (ad 14) (ad 15) T ω wt fu) (wc' := plW (ad 14) (ad 15) T ω wt fu) Z Mz9 (cb_warmthAt_none l D T (ad 14) (ad 15) ω wt fu nj hnj hwt (x) hx9 hx8) (cwV 1 hts gX5_planned_X3_warmthAt rfl rfl rfl (by decide +kernel) ⟨Nat.le_of_ble_eq_true rfl, Nat.le_of_ble_eq_true rfl⟩) [1, 2] rfl (by decide) (fun j hj => rfl) (Nat.le_refl _) (va_recv Z.2.1 Mz9.1 (ci := 4) (q0 := 1) rfl rfl) rfl hl9.1 (Nat.le_of_ble_eq_true rfl) dX5_planned_20 ⟨Nat.le_of_ble_eq_true rfl, Nat.le_of_ble_eq_true rfl⟩ rfl (fun Hp9 lc9 Mz9 => ?_)
  have Mz9 : zM D A s.heap [(o, .inr (6, hsF ad lo)), (ad 14, .inr (4, [.ref (ad 15), .int (wt), .int (fu)])), (ad 15, .inl (T 0, 12, .inl ω))] _ _ := Mz9
  exact hret _ _ _ _ _ sl9 _ _ Mz9 (rfl) (rfl) (rfl) (Nat.le_of_ble_eq_true rfl) (Nat.le_of_ble_eq_true rfl) dX5_planned_23
set_option maxHeartbeats 4000000 in
set_option maxRecDepth 100000 in
theorem ch_planned_a (l : Launch) (hfl : l.stackTraces = false) (D : va_G) (T : Nat → ClassId) (ea mi : Nat) (sa : Nat → Nat) (o : Nat) (ad : Nat → Nat) (lo : Int32) (v : Int32) (hv9 : v < 0) : ZB l yX5_planned wsX5_planned (zrmc 6 82 1 6) (zW ea mi sa) D T [(o, .inr (6, hsF ad lo))] [.ref o, .int (v)] "java/lang/IllegalArgumentException" := by
  refine z_inB (cc := cX5_planned) (maxL := 2) (ret := (some .int)) (by decide +kernel) rfl (Nat.le_of_ble_eq_true rfl) ?_
  intro p e s m args below meth c sl9 A hA Z hW Mz9 hl9 hE
  have Z : zC p s m args c cX5_planned 2 RX5 wsX5_planned D T A := Z
  have hx := Z.1.1
  have hb := Z.1.2.1
  have hts := Z.1.2.2.2.2
  have hin5 : ∀ w ∈ wsX50, w ∈ wsX5_planned := by decide +kernel
  have hin3 : ∀ w ∈ wsX30, w ∈ wsX5_planned := by decide +kernel
  have hX9 : ∀ w ∈ Cond.classLink RX5 51 "java/lang/IllegalArgumentException" :: Cond.initialized "java/lang/IllegalArgumentException" :: (vx_atS RX5 55 "java/lang/IllegalArgumentException" zNm).filter goodWord, w ∈ wsX5_planned := by decide +kernel
  have L42 := hts (.fieldLink RX5 42 "AnvilHouse" "plan" "LAnvilHouse$Plan;") (by decide +kernel)
  have hl9 : lv_has sl9 2 [(0, .ref o), (1, .int (v))] := hl9
  refine lv_iload_n hx hb dX5_planned_0 rfl (lv_at hl9 1 rfl) ?_
  refine lv_if_ge (tgt := 15) hx hb dX5_planned_1 (by decide) (fun c_1 => ?_) (fun c_1 => ?_)
  ·
    exact False.elim (by have h := hv9; first | exact absurd h c_1 | exact absurd c_1 h | exact absurd h (Int32.not_lt.mpr c_1) | exact absurd (Int32.not_le.mp c_1) (Int32.not_lt.mpr h) | exact absurd c_1 (Int32.not_lt.mpr h))
  ·
    exact z_throwW Z hW Mz9 hA hE hl9.1 hfl zThr_A hX9 (is := 299) (text := "places are from 0") (by decide +kernel) dX5_planned_4 dX5_planned_7 dX5_planned_8 dX5_planned_11 dX5_planned_14 (Nat.le_of_ble_eq_true rfl) (Nat.le_of_ble_eq_true rfl) ⟨Nat.le_of_ble_eq_true rfl, Nat.le_of_ble_eq_true rfl⟩ ⟨Nat.le_of_ble_eq_true rfl, Nat.le_of_ble_eq_true rfl⟩ rfl
set_option maxHeartbeats 4000000 in
set_option maxRecDepth 100000 in
theorem ch_run_0 (l : Launch) (D : va_G) (T : Nat → ClassId) (o : Nat) (ad : Nat → Nat) (lo : Int32) (ω : Nat → Int32) (wt fu : Int32) (hwt : wt = nI 0) : ZI l yX5_run wsX5_run (zrm 5 106) D T [(o, .inr (6, hsF ad lo)), (ad 14, .inr (4, [.ref (ad 15), .int (wt), .int (fu)])), (ad 15, .inl (T 0, 12, .inl ω))] [(o, .inr (6, hsF ad lo)), (ad 14, .inr (4, [.ref (ad 15), .int (wt), .int (fu)])), (ad 15, .inl (T 0, 12, .inl ω))] [.ref o] (0) 0 0 := by
  refine z_inI (cc := cX5_run) (maxL := 1) (rt := .int) (by decide +kernel) rfl (Nat.le_of_ble_eq_true rfl) ?_
  intro p e s m args below meth c sl9 A Q Z hnm Mz9 hl9 hret
  have Z : zC p s m args c cX5_run 1 RX5 wsX5_run D T A := Z
  have hx := Z.1.1
  have hb := Z.1.2.1
  have hts := Z.1.2.2.2.2
  have hin5 : ∀ w ∈ wsX50, w ∈ wsX5_run := by decide +kernel
  have hin3 : ∀ w ∈ wsX30, w ∈ wsX5_run := by decide +kernel
  have L42 := hts (.fieldLink RX5 42 "AnvilHouse" "plan" "LAnvilHouse$Plan;") (by decide +kernel)
  have hl9 : lv_has sl9 1 [(0, .ref o)] := hl9
  refine lv_aload_n hx hb dX5_run_0 rfl (lv_at hl9 0 rfl) ?_
  refine z_getf Z Mz9 hin5 0 rfl rfl 7 (by decide) L42 rfl (v := .ref (ad 14)) rfl dX5_run_1 ?_
  refine z_callVi (As := []) (rest := []) (rv := 0) (wc := plW (ad 14) (ad 15) T ω wt fu) (wc' := plW (ad 14) (ad 15) T ω wt fu) Z Mz9 (cb_carryOut_0 l D T (ad 14) (ad 15) ω wt fu hwt) (cwV 0 hts gX5_run_X3_carryOut rfl rfl rfl (by decide +kernel) ⟨Nat.le_of_ble_eq_true rfl, Nat.le_of_ble_eq_true rfl⟩) [1, 2] rfl (by decide) (fun j hj => rfl) (Nat.le_refl _) (va_recv Z.2.1 Mz9.1 (ci := 4) (q0 := 1) rfl rfl) rfl hl9.1 (Nat.le_of_ble_eq_true rfl) dX5_run_4 ⟨Nat.le_of_ble_eq_true rfl, Nat.le_of_ble_eq_true rfl⟩ rfl (fun Hp9 lc9 Mz9 => ?_)
  have Mz9 : zM D A s.heap [(o, .inr (6, hsF ad lo)), (ad 14, .inr (4, [.ref (ad 15), .int (wt), .int (fu)])), (ad 15, .inl (T 0, 12, .inl ω))] _ _ := Mz9
  exact hret _ _ _ _ _ sl9 _ _ Mz9 (rfl) (rfl) (rfl) (Nat.le_of_ble_eq_true rfl) (Nat.le_of_ble_eq_true rfl) dX5_run_7
set_option maxHeartbeats 4000000 in
set_option maxRecDepth 100000 in
theorem ch_run (l : Launch) (D : va_G) (T : Nat → ClassId) (o : Nat) (ad : Nat → Nat) (lo : Int32) (ω : Nat → Int32) (wt fu : Int32) (nj : Nat) (hnj : nj ≤ 12) (hwt : wt = nI nj) (h0 : 0 < nj) : ZI l yX5_run wsX5_run (zrm 5 106) D T [(o, .inr (6, hsF ad lo)), (ad 14, .inr (4, [.ref (ad 15), .int (wt), .int (fu)])), (ad 15, .inl (T 0, 12, .inl ω))] [(o, .inr (6, hsF ad lo)), (ad 14, .inr (4, [.ref (ad 15), .int 0, .int (plA ω nj fu (nj - 1))])), (ad 15, .inl (T 0, 12, .inl ω))] [.ref o] (absd ((plA ω nj fu 0) - fu) + absd ((plA ω nj fu (nj - 1)) - (plA ω nj fu 0))) 0 0 := by
  refine z_inI (cc := cX5_run) (maxL := 1) (rt := .int) (by decide +kernel) rfl (Nat.le_of_ble_eq_true rfl) ?_
  intro p e s m args below meth c sl9 A Q Z hnm Mz9 hl9 hret
  have Z : zC p s m args c cX5_run 1 RX5 wsX5_run D T A := Z
  have hx := Z.1.1
  have hb := Z.1.2.1
  have hts := Z.1.2.2.2.2
  have hin5 : ∀ w ∈ wsX50, w ∈ wsX5_run := by decide +kernel
  have hin3 : ∀ w ∈ wsX30, w ∈ wsX5_run := by decide +kernel
  have L42 := hts (.fieldLink RX5 42 "AnvilHouse" "plan" "LAnvilHouse$Plan;") (by decide +kernel)
  have hl9 : lv_has sl9 1 [(0, .ref o)] := hl9
  refine lv_aload_n hx hb dX5_run_0 rfl (lv_at hl9 0 rfl) ?_
  refine z_getf Z Mz9 hin5 0 rfl rfl 7 (by decide) L42 rfl (v := .ref (ad 14)) rfl dX5_run_1 ?_
  refine z_callVi (As := []) (rest := []) (rv := absd ((plA ω nj fu 0) - fu) + absd ((plA ω nj fu (nj - 1)) - (plA ω nj fu 0))) (wc := plW (ad 14) (ad 15) T ω wt fu) (wc' := plW (ad 14) (ad 15) T ω 0 (plA ω nj fu (nj - 1))) Z Mz9 (cb_carryOut l D T (ad 14) (ad 15) ω wt fu nj hnj hwt h0) (cwV 0 hts gX5_run_X3_carryOut rfl rfl rfl (by decide +kernel) ⟨Nat.le_of_ble_eq_true rfl, Nat.le_of_ble_eq_true rfl⟩) [1, 2] rfl (by decide) (fun j hj => rfl) (Nat.le_refl _) (va_recv Z.2.1 Mz9.1 (ci := 4) (q0 := 1) rfl rfl) rfl hl9.1 (Nat.le_of_ble_eq_true rfl) dX5_run_4 ⟨Nat.le_of_ble_eq_true rfl, Nat.le_of_ble_eq_true rfl⟩ rfl (fun Hp9 lc9 Mz9 => ?_)
  have Mz9 : zM D A s.heap [(o, .inr (6, hsF ad lo)), (ad 14, .inr (4, [.ref (ad 15), .int 0, .int (plA ω nj fu (nj - 1))])), (ad 15, .inl (T 0, 12, .inl ω))] _ _ := Mz9
  exact hret _ _ _ _ _ sl9 _ _ Mz9 (rfl) (rfl) (rfl) (Nat.le_of_ble_eq_true rfl) (Nat.le_of_ble_eq_true rfl) dX5_run_7
set_option maxHeartbeats 4000000 in
set_option maxRecDepth 100000 in
theorem ch_shape (l : Launch) (D : va_G) (T : Nat → ClassId) (o : Nat) (ad : Nat → Nat) (lo : Int32) (kd : Int32) (rd nd gd : Nat) (fd : Nat → Option Nat) (d da : Nat) (lf : Int32) (γ : Nat → Int32) (i9 : Nat) (hi9 : i9 < gd) (hg9 : gd ≤ nd) (hn9 : nd ≤ 40000) (hf9 : fd i9 = some d) (j : Nat) (hj : j < 8) (w9 : Int32) (h1 : ¬ w9 < 1) (h2 : w9 ≤ 400) : ZI l yX5_shape wsX5_shape (zrm 4 85) D T [(o, .inr (6, hsF ad lo)), (ad 8, .inr (0, [.int (kd), .ref rd, .int (nI (gd))])), (rd, .inl (T 3, nd, qa fd)), (d, .inr (2, [.ref da, .int (lf)])), (da, .inl (T 0, 8, .inl γ))] [(o, .inr (6, hsF ad lo)), (ad 8, .inr (0, [.int (kd), .ref rd, .int (nI (gd))])), (rd, .inl (T 3, nd, qa fd)), (d, .inr (2, [.ref da, .int (lf)])), (da, .inl (T 0, 8, .inl (upd γ j w9)))] [.ref o, .int (nI (i9)), .int (nI (j)), .int (w9)] (γ j) 0 0 := by
  refine z_inI (cc := cX5_shape) (maxL := 6) (rt := .int) (by decide +kernel) rfl (Nat.le_of_ble_eq_true rfl) ?_
  intro p e s m args below meth c sl9 A Q Z hnm Mz9 hl9 hret
  have Z : zC p s m args c cX5_shape 6 RX5 wsX5_shape D T A := Z
  have hx := Z.1.1
  have hb := Z.1.2.1
  have hts := Z.1.2.2.2.2
  have hin5 : ∀ w ∈ wsX50, w ∈ wsX5_shape := by decide +kernel
  have hinL : ∀ w ∈ wsJx4a65c0, w ∈ wsX5_shape := by decide +kernel
  have hin1 : ∀ w ∈ wsX10, w ∈ wsX5_shape := by decide +kernel
  have L207 := hts (.fieldLink RX5 207 "AnvilHouse$Die" "areas" "[I") (by decide +kernel)
  have hl9 : lv_has sl9 6 [(0, .ref o), (1, .int (nI (i9))), (2, .int (nI (j))), (3, .int (w9))] := hl9
  refine lv_aload_n hx hb dX5_shape_0 rfl (lv_at hl9 0 rfl) ?_
  refine lv_iload_n hx hb dX5_shape_1 rfl (lv_at hl9 1 rfl) ?_
  refine z_callVr (As := [.int (nI (i9))]) (rest := []) (wc := [(o, .inr (6, hsF ad lo)), (ad 8, .inr (0, [.int (kd), .ref rd, .int (nI (gd))])), (rd, .inl (T 3, nd, qa fd)), (d, .inr (2, [.ref da, .int (lf)]))]) Z Mz9 (ch_dieAt l D T o ad lo kd rd nd gd fd d ([.ref da, .int (lf)]) i9 hi9 hg9 hn9 hf9) (cwV 1 hts gX5_shape_X5_dieAt rfl rfl rfl (by decide +kernel) ⟨Nat.le_of_ble_eq_true rfl, Nat.le_of_ble_eq_true rfl⟩) [0, 1, 2, 3] rfl (by decide) (fun _ j hj => rfl) (fun _ => Nat.le_refl _) (va_recv Z.2.1 Mz9.1 (ci := 6) (q0 := 0) rfl rfl) rfl hl9.1 (Nat.le_of_ble_eq_true rfl) dX5_shape_2 ⟨Nat.le_of_ble_eq_true rfl, Nat.le_of_ble_eq_true rfl⟩ rfl (fun _ Hp9 lc9 Mz9 => ?_)
  have Mz9 : zM D A s.heap [(o, .inr (6, hsF ad lo)), (ad 8, .inr (0, [.int (kd), .ref rd, .int (nI (gd))])), (rd, .inl (T 3, nd, qa fd)), (d, .inr (2, [.ref da, .int (lf)])), (da, .inl (T 0, 8, .inl γ))] _ _ := Mz9
  refine lv_astore (lv' := [(4, .ref d), (0, .ref o), (1, .int (nI (i9))), (2, .int (nI (j))), (3, .int (w9))]) hx hb dX5_shape_5 hl9 (by decide) rfl (fun sl9 hl9 => ?_)
  refine lv_iload_n hx hb dX5_shape_7 rfl (lv_at hl9 3 rfl) ?_
  refine z_callSv (As := [.int (nI (j))]) (rest := []) (wc := []) (wc' := []) Z Mz9 (ch_refuseNoSection l D T (j) hj) (va_cwS 1 hts gX5_shape_X5_refuseNoSection rfl rfl rfl (by decide +kernel) ⟨Nat.le_of_ble_eq_true rfl, Nat.le_of_ble_eq_true rfl⟩) [] rfl (by decide) (fun j hj => rfl) (Nat.le_refl _) rfl hl9.1 (Nat.le_of_ble_eq_true rfl) dX5_shape_8 ⟨Nat.le_of_ble_eq_true rfl, Nat.le_of_ble_eq_true rfl⟩ rfl (fun Hp9 lc9 Mz9 => ?_)
  have Mz9 : zM D A s.heap [(o, .inr (6, hsF ad lo)), (ad 8, .inr (0, [.int (kd), .ref rd, .int (nI (gd))])), (rd, .inl (T 3, nd, qa fd)), (d, .inr (2, [.ref da, .int (lf)])), (da, .inl (T 0, 8, .inl γ))] _ _ := Mz9
  refine lv_iload_n hx hb dX5_shape_11 rfl (lv_at hl9 4 rfl) ?_
  refine lv_iconst (v := 1) hx hb dX5_shape_12 (by decide) ?_
  refine lv_icmp_lt (tgt := 23) hx hb dX5_shape_13 (by decide) (fun h => absurd h (h1)) (fun _ => ?_)
  refine lv_iload_n hx hb dX5_shape_16 rfl (lv_at hl9 4 rfl) ?_
  refine lv_sipush (v := 400) hx hb dX5_shape_17 (by decide) ?_
  refine lv_icmp_le (tgt := 33) hx hb dX5_shape_20 (by decide) (fun _ => ?_) (fun h => absurd h (fun z => z h2))
  refine lv_aload hx hb dX5_shape_33 (lv_at hl9 0 rfl) ?_
  refine z_getf Z Mz9 hin1 3 rfl rfl 0 (by decide) L207 rfl (v := .ref da) rfl dX5_shape_35 ?_
  refine lv_iload_n hx hb dX5_shape_38 rfl (lv_at hl9 3 rfl) ?_
  refine z_iald Z Mz9 4 (h0 := da) (n := 8) (f := γ) rfl (j := j) (by omega) (by decide) dX5_shape_39 ?_
  refine lv_istore (lv' := [(5, .int (γ j)), (4, .ref d), (0, .ref o), (1, .int (nI (i9))), (2, .int (nI (j))), (3, .int (w9))]) hx hb dX5_shape_40 hl9 (by decide) rfl (fun sl9 hl9 => ?_)
  refine lv_aload hx hb dX5_shape_42 (lv_at hl9 1 rfl) ?_
  refine z_getf Z Mz9 hin1 3 rfl rfl 0 (by decide) L207 rfl (v := .ref da) rfl dX5_shape_44 ?_
  refine lv_iload_n hx hb dX5_shape_47 rfl (lv_at hl9 4 rfl) ?_
  refine lv_iload_n hx hb dX5_shape_48 rfl (lv_at hl9 5 rfl) ?_
  refine z_iast Z Mz9 4 (h0 := da) (n := 8) (f := γ) rfl (j := j) (x := w9) (by omega) (by decide) (ws' := [(o, .inr (6, hsF ad lo)), (ad 8, .inr (0, [.int (kd), .ref rd, .int (nI (gd))])), (rd, .inl (T 3, nd, qa fd)), (d, .inr (2, [.ref da, .int (lf)])), (da, .inl (T 0, 8, .inl (upd γ j w9)))]) rfl dX5_shape_49 (fun Hp9 lc9 Mz9 => ?_)
  refine lv_iload hx hb dX5_shape_50 (lv_at hl9 0 rfl) ?_
  exact hret _ _ _ _ _ sl9 _ _ Mz9 (rfl) (rfl) (rfl) (Nat.le_of_ble_eq_true rfl) (Nat.le_of_ble_eq_true rfl) dX5_shape_52
set_option maxHeartbeats 4000000 in
set_option maxRecDepth 100000 in
theorem ch_shape_b (l : Launch) (hfl : l.stackTraces = false) (D : va_G) (T : Nat → ClassId) (ea mi : Nat) (sa : Nat → Nat) (o : Nat) (ad : Nat → Nat) (lo : Int32) (kd : Int32) (rd gd : Nat) (v : Int32) (t w9 : Int32) (hv9 : v < 0 ∨ nI gd ≤ v) : ZB l yX5_shape wsX5_shape (zrmc 7 103 1 6) (zW ea mi sa) D T [(o, .inr (6, hsF ad lo)), (ad 8, .inr (0, [.int (kd), .ref rd, .int (nI (gd))]))] [.ref o, .int (v), .int (t), .int (w9)] "java/lang/IndexOutOfBoundsException" := by
  refine z_inB (cc := cX5_shape) (maxL := 6) (ret := (some .int)) (by decide +kernel) rfl (Nat.le_of_ble_eq_true rfl) ?_
  intro p e s m args below meth c sl9 A hA Z hW Mz9 hl9 hE
  have Z : zC p s m args c cX5_shape 6 RX5 wsX5_shape D T A := Z
  have hx := Z.1.1
  have hb := Z.1.2.1
  have hts := Z.1.2.2.2.2
  have hin5 : ∀ w ∈ wsX50, w ∈ wsX5_shape := by decide +kernel
  have hinL : ∀ w ∈ wsJx4a65c0, w ∈ wsX5_shape := by decide +kernel
  have hin1 : ∀ w ∈ wsX10, w ∈ wsX5_shape := by decide +kernel
  have L207 := hts (.fieldLink RX5 207 "AnvilHouse$Die" "areas" "[I") (by decide +kernel)
  have hl9 : lv_has sl9 6 [(0, .ref o), (1, .int (v)), (2, .int (t)), (3, .int (w9))] := hl9
  refine lv_aload_n hx hb dX5_shape_0 rfl (lv_at hl9 0 rfl) ?_
  refine lv_iload_n hx hb dX5_shape_1 rfl (lv_at hl9 1 rfl) ?_
  exact z_callB (As := [.int (v)]) (rest := []) (wc := [(o, .inr (6, hsF ad lo)), (ad 8, .inr (0, [.int (kd), .ref rd, .int (nI (gd))]))]) (zW_k ea mi sa) hW Z Mz9 hA hE (ch_dieAt_bad l hfl D T ea mi sa o ad lo kd rd gd v hv9) (cwV 1 hts gX5_shape_X5_dieAt rfl rfl rfl (by decide +kernel) ⟨Nat.le_of_ble_eq_true rfl, Nat.le_of_ble_eq_true rfl⟩) [0, 1] rfl (by decide) (va_recv Z.2.1 Mz9.1 (ci := 6) (q0 := 0) rfl rfl) rfl hl9.1 (Nat.le_of_ble_eq_true rfl) dX5_shape_2 ⟨Nat.le_of_ble_eq_true rfl, Nat.le_of_ble_eq_true rfl⟩ ⟨Nat.le_of_ble_eq_true rfl, Nat.le_of_ble_eq_true rfl⟩ rfl rfl
set_option maxHeartbeats 4000000 in
set_option maxRecDepth 100000 in
theorem ch_shape_s (l : Launch) (hfl : l.stackTraces = false) (D : va_G) (T : Nat → ClassId) (ea mi : Nat) (sa : Nat → Nat) (o : Nat) (ad : Nat → Nat) (lo : Int32) (kd : Int32) (rd nd gd : Nat) (fd : Nat → Option Nat) (d da : Nat) (lf : Int32) (i9 : Nat) (hi9 : i9 < gd) (hg9 : gd ≤ nd) (hn9 : nd ≤ 40000) (hf9 : fd i9 = some d) (v w9 : Int32) (hv9 : v < 0 ∨ 8 ≤ v) : ZB l yX5_shape wsX5_shape (zrmc 7 102 1 6) (zW ea mi sa) D T [(o, .inr (6, hsF ad lo)), (ad 8, .inr (0, [.int (kd), .ref rd, .int (nI (gd))])), (rd, .inl (T 3, nd, qa fd)), (d, .inr (2, [.ref da, .int (lf)]))] [.ref o, .int (nI (i9)), .int (v), .int (w9)] "java/lang/IndexOutOfBoundsException" := by
  refine z_inB (cc := cX5_shape) (maxL := 6) (ret := (some .int)) (by decide +kernel) rfl (Nat.le_of_ble_eq_true rfl) ?_
  intro p e s m args below meth c sl9 A hA Z hW Mz9 hl9 hE
  have Z : zC p s m args c cX5_shape 6 RX5 wsX5_shape D T A := Z
  have hx := Z.1.1
  have hb := Z.1.2.1
  have hts := Z.1.2.2.2.2
  have hin5 : ∀ w ∈ wsX50, w ∈ wsX5_shape := by decide +kernel
  have hinL : ∀ w ∈ wsJx4a65c0, w ∈ wsX5_shape := by decide +kernel
  have hin1 : ∀ w ∈ wsX10, w ∈ wsX5_shape := by decide +kernel
  have L207 := hts (.fieldLink RX5 207 "AnvilHouse$Die" "areas" "[I") (by decide +kernel)
  have hl9 : lv_has sl9 6 [(0, .ref o), (1, .int (nI (i9))), (2, .int (v)), (3, .int (w9))] := hl9
  refine lv_aload_n hx hb dX5_shape_0 rfl (lv_at hl9 0 rfl) ?_
  refine lv_iload_n hx hb dX5_shape_1 rfl (lv_at hl9 1 rfl) ?_
  refine z_callVr (As := [.int (nI (i9))]) (rest := []) (wc := [(o, .inr (6, hsF ad lo)), (ad 8, .inr (0, [.int (kd), .ref rd, .int (nI (gd))])), (rd, .inl (T 3, nd, qa fd)), (d, .inr (2, [.ref da, .int (lf)]))]) Z Mz9 (ch_dieAt l D T o ad lo kd rd nd gd fd d ([.ref da, .int (lf)]) i9 hi9 hg9 hn9 hf9) (cwV 1 hts gX5_shape_X5_dieAt rfl rfl rfl (by decide +kernel) ⟨Nat.le_of_ble_eq_true rfl, Nat.le_of_ble_eq_true rfl⟩) [0, 1, 2, 3] rfl (by decide) (fun _ j hj => rfl) (fun _ => Nat.le_refl _) (va_recv Z.2.1 Mz9.1 (ci := 6) (q0 := 0) rfl rfl) rfl hl9.1 (Nat.le_of_ble_eq_true rfl) dX5_shape_2 ⟨Nat.le_of_ble_eq_true rfl, Nat.le_of_ble_eq_true rfl⟩ rfl (fun _ Hp9 lc9 Mz9 => ?_)
  have Mz9 : zM D A s.heap [(o, .inr (6, hsF ad lo)), (ad 8, .inr (0, [.int (kd), .ref rd, .int (nI (gd))])), (rd, .inl (T 3, nd, qa fd)), (d, .inr (2, [.ref da, .int (lf)]))] _ _ := Mz9
  refine lv_astore (lv' := [(4, .ref d), (0, .ref o), (1, .int (nI (i9))), (2, .int (v)), (3, .int (w9))]) hx hb dX5_shape_5 hl9 (by decide) rfl (fun sl9 hl9 => ?_)
  refine lv_iload_n hx hb dX5_shape_7 rfl (lv_at hl9 3 rfl) ?_
  exact z_callSB (As := [.int (v)]) (rest := []) (wc := []) (zW_k ea mi sa) hW Z Mz9 hA hE (ch_refuseNoSection_bad l hfl D T ea mi sa v hv9) (va_cwS 1 hts gX5_shape_X5_refuseNoSection rfl rfl rfl (by decide +kernel) ⟨Nat.le_of_ble_eq_true rfl, Nat.le_of_ble_eq_true rfl⟩) [] rfl (by decide) rfl hl9.1 (Nat.le_of_ble_eq_true rfl) dX5_shape_8 ⟨Nat.le_of_ble_eq_true rfl, Nat.le_of_ble_eq_true rfl⟩ ⟨Nat.le_of_ble_eq_true rfl, Nat.le_of_ble_eq_true rfl⟩ rfl rfl
set_option maxHeartbeats 4000000 in
set_option maxRecDepth 100000 in
theorem ch_shape_a (l : Launch) (hfl : l.stackTraces = false) (D : va_G) (T : Nat → ClassId) (ea mi : Nat) (sa : Nat → Nat) (o : Nat) (ad : Nat → Nat) (lo : Int32) (kd : Int32) (rd nd gd : Nat) (fd : Nat → Option Nat) (d da : Nat) (lf : Int32) (i9 : Nat) (hi9 : i9 < gd) (hg9 : gd ≤ nd) (hn9 : nd ≤ 40000) (hf9 : fd i9 = some d) (j : Nat) (hj : j < 8) (w9 : Int32) (hv9 : w9 < 1 ∨ 400 < w9) : ZB l yX5_shape wsX5_shape (zrmc 6 85 1 6) (zW ea mi sa) D T [(o, .inr (6, hsF ad lo)), (ad 8, .inr (0, [.int (kd), .ref rd, .int (nI (gd))])), (rd, .inl (T 3, nd, qa fd)), (d, .inr (2, [.ref da, .int (lf)]))] [.ref o, .int (nI (i9)), .int (nI (j)), .int (w9)] "java/lang/IllegalArgumentException" := by
  refine z_inB (cc := cX5_shape) (maxL := 6) (ret := (some .int)) (by decide +kernel) rfl (Nat.le_of_ble_eq_true rfl) ?_
  intro p e s m args below meth c sl9 A hA Z hW Mz9 hl9 hE
  have Z : zC p s m args c cX5_shape 6 RX5 wsX5_shape D T A := Z
  have hx := Z.1.1
  have hb := Z.1.2.1
  have hts := Z.1.2.2.2.2
  have hin5 : ∀ w ∈ wsX50, w ∈ wsX5_shape := by decide +kernel
  have hinL : ∀ w ∈ wsJx4a65c0, w ∈ wsX5_shape := by decide +kernel
  have hin1 : ∀ w ∈ wsX10, w ∈ wsX5_shape := by decide +kernel
  have hX9 : ∀ w ∈ Cond.classLink RX5 51 "java/lang/IllegalArgumentException" :: Cond.initialized "java/lang/IllegalArgumentException" :: (vx_atS RX5 55 "java/lang/IllegalArgumentException" zNm).filter goodWord, w ∈ wsX5_shape := by decide +kernel
  have L207 := hts (.fieldLink RX5 207 "AnvilHouse$Die" "areas" "[I") (by decide +kernel)
  have hl9 : lv_has sl9 6 [(0, .ref o), (1, .int (nI (i9))), (2, .int (nI (j))), (3, .int (w9))] := hl9
  refine lv_aload_n hx hb dX5_shape_0 rfl (lv_at hl9 0 rfl) ?_
  refine lv_iload_n hx hb dX5_shape_1 rfl (lv_at hl9 1 rfl) ?_
  refine z_callVr (As := [.int (nI (i9))]) (rest := []) (wc := [(o, .inr (6, hsF ad lo)), (ad 8, .inr (0, [.int (kd), .ref rd, .int (nI (gd))])), (rd, .inl (T 3, nd, qa fd)), (d, .inr (2, [.ref da, .int (lf)]))]) Z Mz9 (ch_dieAt l D T o ad lo kd rd nd gd fd d ([.ref da, .int (lf)]) i9 hi9 hg9 hn9 hf9) (cwV 1 hts gX5_shape_X5_dieAt rfl rfl rfl (by decide +kernel) ⟨Nat.le_of_ble_eq_true rfl, Nat.le_of_ble_eq_true rfl⟩) [0, 1, 2, 3] rfl (by decide) (fun _ j hj => rfl) (fun _ => Nat.le_refl _) (va_recv Z.2.1 Mz9.1 (ci := 6) (q0 := 0) rfl rfl) rfl hl9.1 (Nat.le_of_ble_eq_true rfl) dX5_shape_2 ⟨Nat.le_of_ble_eq_true rfl, Nat.le_of_ble_eq_true rfl⟩ rfl (fun _ Hp9 lc9 Mz9 => ?_)
  have Mz9 : zM D A s.heap [(o, .inr (6, hsF ad lo)), (ad 8, .inr (0, [.int (kd), .ref rd, .int (nI (gd))])), (rd, .inl (T 3, nd, qa fd)), (d, .inr (2, [.ref da, .int (lf)]))] _ _ := Mz9
  refine lv_astore (lv' := [(4, .ref d), (0, .ref o), (1, .int (nI (i9))), (2, .int (nI (j))), (3, .int (w9))]) hx hb dX5_shape_5 hl9 (by decide) rfl (fun sl9 hl9 => ?_)
  refine lv_iload_n hx hb dX5_shape_7 rfl (lv_at hl9 3 rfl) ?_
  refine z_callSv (As := [.int (nI (j))]) (rest := []) (wc := []) (wc' := []) Z Mz9 (ch_refuseNoSection l D T (j) hj) (va_cwS 1 hts gX5_shape_X5_refuseNoSection rfl rfl rfl (by decide +kernel) ⟨Nat.le_of_ble_eq_true rfl, Nat.le_of_ble_eq_true rfl⟩) [] rfl (by decide) (fun j hj => rfl) (Nat.le_refl _) rfl hl9.1 (Nat.le_of_ble_eq_true rfl) dX5_shape_8 ⟨Nat.le_of_ble_eq_true rfl, Nat.le_of_ble_eq_true rfl⟩ rfl (fun Hp9 lc9 Mz9 => ?_)
  have Mz9 : zM D A s.heap [(o, .inr (6, hsF ad lo)), (ad 8, .inr (0, [.int (kd), .ref rd, .int (nI (gd))])), (rd, .inl (T 3, nd, qa fd)), (d, .inr (2, [.ref da, .int (lf)]))] _ _ := Mz9
  refine lv_iload_n hx hb dX5_shape_11 rfl (lv_at hl9 4 rfl) ?_
  refine lv_iconst (v := 1) hx hb dX5_shape_12 (by decide) ?_
  refine lv_icmp_lt (tgt := 23) hx hb dX5_shape_13 (by decide) (fun c_1 => ?_) (fun c_1 => ?_)
  ·
    exact z_throw Z hW Mz9 hA hE hl9.1 hfl zThr_A hX9 (is := 205) (text := "an area of a die is 1 to 400") (by decide +kernel) dX5_shape_23 dX5_shape_26 dX5_shape_27 dX5_shape_29 dX5_shape_32 (Nat.le_of_ble_eq_true rfl) (Nat.le_of_ble_eq_true rfl) ⟨Nat.le_of_ble_eq_true rfl, Nat.le_of_ble_eq_true rfl⟩ ⟨Nat.le_of_ble_eq_true rfl, Nat.le_of_ble_eq_true rfl⟩ rfl
  ·
    refine lv_iload_n hx hb dX5_shape_16 rfl (lv_at hl9 4 rfl) ?_
    refine lv_sipush (v := 400) hx hb dX5_shape_17 (by decide) ?_
    refine lv_icmp_le (tgt := 33) hx hb dX5_shape_20 (by decide) (fun c_2 => ?_) (fun c_2 => ?_)
    ·
      exact False.elim (by rcases hv9 with h | h <;> first | exact absurd h c_1 | exact absurd c_1 h | exact absurd h (Int32.not_lt.mpr c_1) | exact absurd (Int32.not_le.mp c_1) (Int32.not_lt.mpr h) | exact absurd c_1 (Int32.not_lt.mpr h) | exact absurd h c_2 | exact absurd c_2 h | exact absurd h (Int32.not_lt.mpr c_2) | exact absurd (Int32.not_le.mp c_2) (Int32.not_lt.mpr h) | exact absurd c_2 (Int32.not_lt.mpr h))
    ·
      exact z_throw Z hW Mz9 hA hE hl9.1 hfl zThr_A hX9 (is := 205) (text := "an area of a die is 1 to 400") (by decide +kernel) dX5_shape_23 dX5_shape_26 dX5_shape_27 dX5_shape_29 dX5_shape_32 (Nat.le_of_ble_eq_true rfl) (Nat.le_of_ble_eq_true rfl) ⟨Nat.le_of_ble_eq_true rfl, Nat.le_of_ble_eq_true rfl⟩ ⟨Nat.le_of_ble_eq_true rfl, Nat.le_of_ble_eq_true rfl⟩ rfl
set_option maxHeartbeats 4000000 in
set_option maxRecDepth 100000 in
theorem ch_sink (l : Launch) (D : va_G) (T : Nat → ClassId) (o : Nat) (ad : Nat → Nat) (lo : Int32) (kd : Int32) (rd nd gd : Nat) (fd : Nat → Option Nat) (d da : Nat) (lf : Int32) (i9 : Nat) (hi9 : i9 < gd) (hg9 : gd ≤ nd) (hn9 : nd ≤ 40000) (hf9 : fd i9 = some d) : ZI l yX5_sink wsX5_sink (zrm 4 85) D T [(o, .inr (6, hsF ad lo)), (ad 8, .inr (0, [.int (kd), .ref rd, .int (nI (gd))])), (rd, .inl (T 3, nd, qa fd)), (d, .inr (2, [.ref da, .int (lf)]))] [(o, .inr (6, hsF ad lo)), (ad 8, .inr (0, [.int (kd), .ref rd, .int (nI (gd))])), (rd, .inl (T 3, nd, qa fd)), (d, .inr (2, [.ref da, .int 100]))] [.ref o, .int (nI (i9))] (lf) 0 0 := by
  refine z_inI (cc := cX5_sink) (maxL := 4) (rt := .int) (by decide +kernel) rfl (Nat.le_of_ble_eq_true rfl) ?_
  intro p e s m args below meth c sl9 A Q Z hnm Mz9 hl9 hret
  have Z : zC p s m args c cX5_sink 4 RX5 wsX5_sink D T A := Z
  have hx := Z.1.1
  have hb := Z.1.2.1
  have hts := Z.1.2.2.2.2
  have hin5 : ∀ w ∈ wsX50, w ∈ wsX5_sink := by decide +kernel
  have hinL : ∀ w ∈ wsJx4a65c0, w ∈ wsX5_sink := by decide +kernel
  have hin1 : ∀ w ∈ wsX10, w ∈ wsX5_sink := by decide +kernel
  have L208 := hts (.fieldLink RX5 208 "AnvilHouse$Die" "life" "I") (by decide +kernel)
  have hl9 : lv_has sl9 4 [(0, .ref o), (1, .int (nI (i9)))] := hl9
  refine lv_aload_n hx hb dX5_sink_0 rfl (lv_at hl9 0 rfl) ?_
  refine lv_iload_n hx hb dX5_sink_1 rfl (lv_at hl9 1 rfl) ?_
  refine z_callVr (As := [.int (nI (i9))]) (rest := []) (wc := [(o, .inr (6, hsF ad lo)), (ad 8, .inr (0, [.int (kd), .ref rd, .int (nI (gd))])), (rd, .inl (T 3, nd, qa fd)), (d, .inr (2, [.ref da, .int (lf)]))]) Z Mz9 (ch_dieAt l D T o ad lo kd rd nd gd fd d ([.ref da, .int (lf)]) i9 hi9 hg9 hn9 hf9) (cwV 1 hts gX5_sink_X5_dieAt rfl rfl rfl (by decide +kernel) ⟨Nat.le_of_ble_eq_true rfl, Nat.le_of_ble_eq_true rfl⟩) [0, 1, 2, 3] rfl (by decide) (fun _ j hj => rfl) (fun _ => Nat.le_refl _) (va_recv Z.2.1 Mz9.1 (ci := 6) (q0 := 0) rfl rfl) rfl hl9.1 (Nat.le_of_ble_eq_true rfl) dX5_sink_2 ⟨Nat.le_of_ble_eq_true rfl, Nat.le_of_ble_eq_true rfl⟩ rfl (fun _ Hp9 lc9 Mz9 => ?_)
  have Mz9 : zM D A s.heap [(o, .inr (6, hsF ad lo)), (ad 8, .inr (0, [.int (kd), .ref rd, .int (nI (gd))])), (rd, .inl (T 3, nd, qa fd)), (d, .inr (2, [.ref da, .int (lf)]))] _ _ := Mz9
  refine lv_astore_n (lv' := [(2, .ref d), (0, .ref o), (1, .int (nI (i9)))]) hx hb dX5_sink_5 rfl hl9 (by decide) rfl (fun sl9 hl9 => ?_)
  refine lv_aload_n hx hb dX5_sink_6 rfl (lv_at hl9 0 rfl) ?_
  refine z_getf Z Mz9 hin1 3 rfl rfl 1 (by decide) L208 rfl (v := .int (lf)) rfl dX5_sink_7 ?_
  refine lv_istore_n (lv' := [(3, .int (lf)), (2, .ref d), (0, .ref o), (1, .int (nI (i9)))]) hx hb dX5_sink_10 rfl hl9 (by decide) rfl (fun sl9 hl9 => ?_)
  refine lv_aload_n hx hb dX5_sink_11 rfl (lv_at hl9 1 rfl) ?_
  refine lv_bipush (v := 100) hx hb dX5_sink_12 (by decide) ?_
  refine z_putf Z Mz9 hin1 tyX1 tyX1_ok nmX1 3 rfl rfl 1 (by decide) L208 rfl rfl (ty := .int) rfl rfl rfl (Nat.le_of_ble_eq_true rfl) (ws' := [(o, .inr (6, hsF ad lo)), (ad 8, .inr (0, [.int (kd), .ref rd, .int (nI (gd))])), (rd, .inl (T 3, nd, qa fd)), (d, .inr (2, [.ref da, .int 100]))]) rfl dX5_sink_14 (fun Hp9 lc9 Mz9 => ?_)
  refine lv_iload_n hx hb dX5_sink_17 rfl (lv_at hl9 0 rfl) ?_
  exact hret _ _ _ _ _ sl9 _ _ Mz9 (rfl) (rfl) (rfl) (Nat.le_of_ble_eq_true rfl) (Nat.le_of_ble_eq_true rfl) dX5_sink_18
set_option maxHeartbeats 4000000 in
set_option maxRecDepth 100000 in
theorem ch_sink_b (l : Launch) (hfl : l.stackTraces = false) (D : va_G) (T : Nat → ClassId) (ea mi : Nat) (sa : Nat → Nat) (o : Nat) (ad : Nat → Nat) (lo : Int32) (kd : Int32) (rd gd : Nat) (v : Int32) (hv9 : v < 0 ∨ nI gd ≤ v) : ZB l yX5_sink wsX5_sink (zrmc 7 103 1 6) (zW ea mi sa) D T [(o, .inr (6, hsF ad lo)), (ad 8, .inr (0, [.int (kd), .ref rd, .int (nI (gd))]))] [.ref o, .int (v)] "java/lang/IndexOutOfBoundsException" := by
  refine z_inB (cc := cX5_sink) (maxL := 4) (ret := (some .int)) (by decide +kernel) rfl (Nat.le_of_ble_eq_true rfl) ?_
  intro p e s m args below meth c sl9 A hA Z hW Mz9 hl9 hE
  have Z : zC p s m args c cX5_sink 4 RX5 wsX5_sink D T A := Z
  have hx := Z.1.1
  have hb := Z.1.2.1
  have hts := Z.1.2.2.2.2
  have hin5 : ∀ w ∈ wsX50, w ∈ wsX5_sink := by decide +kernel
  have hinL : ∀ w ∈ wsJx4a65c0, w ∈ wsX5_sink := by decide +kernel
  have hin1 : ∀ w ∈ wsX10, w ∈ wsX5_sink := by decide +kernel
  have L208 := hts (.fieldLink RX5 208 "AnvilHouse$Die" "life" "I") (by decide +kernel)
  have hl9 : lv_has sl9 4 [(0, .ref o), (1, .int (v))] := hl9
  refine lv_aload_n hx hb dX5_sink_0 rfl (lv_at hl9 0 rfl) ?_
  refine lv_iload_n hx hb dX5_sink_1 rfl (lv_at hl9 1 rfl) ?_
  exact z_callB (As := [.int (v)]) (rest := []) (wc := [(o, .inr (6, hsF ad lo)), (ad 8, .inr (0, [.int (kd), .ref rd, .int (nI (gd))]))]) (zW_k ea mi sa) hW Z Mz9 hA hE (ch_dieAt_bad l hfl D T ea mi sa o ad lo kd rd gd v hv9) (cwV 1 hts gX5_sink_X5_dieAt rfl rfl rfl (by decide +kernel) ⟨Nat.le_of_ble_eq_true rfl, Nat.le_of_ble_eq_true rfl⟩) [0, 1] rfl (by decide) (va_recv Z.2.1 Mz9.1 (ci := 6) (q0 := 0) rfl rfl) rfl hl9.1 (Nat.le_of_ble_eq_true rfl) dX5_sink_2 ⟨Nat.le_of_ble_eq_true rfl, Nat.le_of_ble_eq_true rfl⟩ ⟨Nat.le_of_ble_eq_true rfl, Nat.le_of_ble_eq_true rfl⟩ rfl rfl
set_option maxHeartbeats 4000000 in
set_option maxRecDepth 100000 in
theorem ch_steel (l : Launch) (D : va_G) (T : Nat → ClassId) (o : Nat) (ad : Nat → Nat) (lo : Int32) (fs : Nat → Option Nat) (u j : Nat) (τ : Nat → Int32) (hj : j < 4) (hf : fs j = some u) (x y z : Int32) (h1 : ¬ x < 1) (h2 : x ≤ 9) (h3 : ¬ y < 20) (h4 : y ≤ 70) (h5 : ¬ z < 0) (h6 : z ≤ 9) : ZV l yX5_steel wsX5_steel (zrm 1 21) D T [(o, .inr (6, hsF ad lo)), (ad 1, .inl (T 4, 4, qa fs)), (u, .inr (5, [.int (τ 0), .int (τ 1), .int (τ 2)]))] [(o, .inr (6, hsF ad lo)), (ad 1, .inl (T 4, 4, qa fs)), (u, .inr (5, [.int (x), .int (y), .int (z)]))] [.ref o, .int (nI (j)), .int (x), .int (y), .int (z)] 0 0 := by
  refine z_inV (cc := cX5_steel) (maxL := 6) (by decide +kernel) rfl (Nat.le_of_ble_eq_true rfl) ?_
  intro p e s m args below meth c sl9 A Q Z hnm Mz9 hl9 hret
  have Z : zC p s m args c cX5_steel 6 RX5 wsX5_steel D T A := Z
  have hx := Z.1.1
  have hb := Z.1.2.1
  have hts := Z.1.2.2.2.2
  have hin5 : ∀ w ∈ wsX50, w ∈ wsX5_steel := by decide +kernel
  have hin4 : ∀ w ∈ wsX40, w ∈ wsX5_steel := by decide +kernel
  have L62 := hts (.fieldLink RX5 62 "AnvilHouse$Steel" "mostHeats" "I") (by decide +kernel)
  have L66 := hts (.fieldLink RX5 66 "AnvilHouse$Steel" "hard" "I") (by decide +kernel)
  have L69 := hts (.fieldLink RX5 69 "AnvilHouse$Steel" "drop" "I") (by decide +kernel)
  have hl9 : lv_has sl9 6 [(0, .ref o), (1, .int (nI (j))), (2, .int (x)), (3, .int (y)), (4, .int (z))] := hl9
  refine lv_aload_n hx hb dX5_steel_0 rfl (lv_at hl9 0 rfl) ?_
  refine lv_iload_n hx hb dX5_steel_1 rfl (lv_at hl9 1 rfl) ?_
  refine z_callVr (As := [.int (nI (j))]) (rest := []) (wc := [(o, .inr (6, hsF ad lo)), (ad 1, .inl (T 4, 4, qa fs))]) Z Mz9 (ch_steelAt l D T o ad lo fs u (j) hj hf) (cwV 1 hts gX5_steel_X5_steelAt rfl rfl rfl (by decide +kernel) ⟨Nat.le_of_ble_eq_true rfl, Nat.le_of_ble_eq_true rfl⟩) [0, 1] rfl (by decide) (fun _ j hj => rfl) (fun _ => Nat.le_refl _) (va_recv Z.2.1 Mz9.1 (ci := 6) (q0 := 0) rfl rfl) rfl hl9.1 (Nat.le_of_ble_eq_true rfl) dX5_steel_2 ⟨Nat.le_of_ble_eq_true rfl, Nat.le_of_ble_eq_true rfl⟩ rfl (fun _ Hp9 lc9 Mz9 => ?_)
  have Mz9 : zM D A s.heap [(o, .inr (6, hsF ad lo)), (ad 1, .inl (T 4, 4, qa fs)), (u, .inr (5, [.int (τ 0), .int (τ 1), .int (τ 2)]))] _ _ := Mz9
  refine lv_astore (lv' := [(5, .ref u), (0, .ref o), (1, .int (nI (j))), (2, .int (x)), (3, .int (y)), (4, .int (z))]) hx hb dX5_steel_5 hl9 (by decide) rfl (fun sl9 hl9 => ?_)
  refine lv_iload_n hx hb dX5_steel_7 rfl (lv_at hl9 3 rfl) ?_
  refine lv_iconst (v := 1) hx hb dX5_steel_8 (by decide) ?_
  refine lv_icmp_lt (tgt := 18) hx hb dX5_steel_9 (by decide) (fun h => absurd h (h1)) (fun _ => ?_)
  refine lv_iload_n hx hb dX5_steel_12 rfl (lv_at hl9 3 rfl) ?_
  refine lv_bipush (v := 9) hx hb dX5_steel_13 (by decide) ?_
  refine lv_icmp_le (tgt := 28) hx hb dX5_steel_15 (by decide) (fun _ => ?_) (fun h => absurd h (fun z9 => z9 h2))
  refine lv_iload_n hx hb dX5_steel_28 rfl (lv_at hl9 4 rfl) ?_
  refine lv_bipush (v := 20) hx hb dX5_steel_29 (by decide) ?_
  refine lv_icmp_lt (tgt := 40) hx hb dX5_steel_31 (by decide) (fun h => absurd h (h3)) (fun _ => ?_)
  refine lv_iload_n hx hb dX5_steel_34 rfl (lv_at hl9 4 rfl) ?_
  refine lv_bipush (v := 70) hx hb dX5_steel_35 (by decide) ?_
  refine lv_icmp_le (tgt := 50) hx hb dX5_steel_37 (by decide) (fun _ => ?_) (fun h => absurd h (fun z9 => z9 h4))
  refine lv_iload hx hb dX5_steel_50 (lv_at hl9 5 rfl) ?_
  refine lv_if_lt (tgt := 62) hx hb dX5_steel_52 (by decide) (fun h => absurd h (h5)) (fun _ => ?_)
  refine lv_iload hx hb dX5_steel_55 (lv_at hl9 5 rfl) ?_
  refine lv_bipush (v := 9) hx hb dX5_steel_57 (by decide) ?_
  refine lv_icmp_le (tgt := 72) hx hb dX5_steel_59 (by decide) (fun _ => ?_) (fun h => absurd h (fun z9 => z9 h6))
  refine lv_aload hx hb dX5_steel_72 (lv_at hl9 0 rfl) ?_
  refine lv_iload_n hx hb dX5_steel_74 rfl (lv_at hl9 3 rfl) ?_
  refine z_putf Z Mz9 hin4 tyX4 tyX4_ok nmX4 2 rfl rfl 0 (by decide) L62 rfl rfl (ty := .int) rfl rfl rfl (Nat.le_of_ble_eq_true rfl) (ws' := [(o, .inr (6, hsF ad lo)), (ad 1, .inl (T 4, 4, qa fs)), (u, .inr (5, [.int (x), .int (τ 1), .int (τ 2)]))]) rfl dX5_steel_75 (fun Hp9 lc9 Mz9 => ?_)
  refine lv_aload hx hb dX5_steel_78 (lv_at hl9 0 rfl) ?_
  refine lv_iload_n hx hb dX5_steel_80 rfl (lv_at hl9 4 rfl) ?_
  refine z_putf Z Mz9 hin4 tyX4 tyX4_ok nmX4 2 rfl rfl 1 (by decide) L66 rfl rfl (ty := .int) rfl rfl rfl (Nat.le_of_ble_eq_true rfl) (ws' := [(o, .inr (6, hsF ad lo)), (ad 1, .inl (T 4, 4, qa fs)), (u, .inr (5, [.int (x), .int (y), .int (τ 2)]))]) rfl dX5_steel_81 (fun Hp9 lc9 Mz9 => ?_)
  refine lv_aload hx hb dX5_steel_84 (lv_at hl9 0 rfl) ?_
  refine lv_iload hx hb dX5_steel_86 (lv_at hl9 5 rfl) ?_
  refine z_putf Z Mz9 hin4 tyX4 tyX4_ok nmX4 2 rfl rfl 2 (by decide) L69 rfl rfl (ty := .int) rfl rfl rfl (Nat.le_of_ble_eq_true rfl) (ws' := [(o, .inr (6, hsF ad lo)), (ad 1, .inl (T 4, 4, qa fs)), (u, .inr (5, [.int (x), .int (y), .int (z)]))]) rfl dX5_steel_88 (fun Hp9 lc9 Mz9 => ?_)
  exact hret _ _ _ _ _ sl9 _ Mz9 (rfl) (Nat.le_of_ble_eq_true rfl) (Nat.le_of_ble_eq_true rfl) dX5_steel_91
set_option maxHeartbeats 4000000 in
set_option maxRecDepth 100000 in
theorem ch_steel_b (l : Launch) (hfl : l.stackTraces = false) (D : va_G) (T : Nat → ClassId) (ea mi : Nat) (sa : Nat → Nat) (o : Nat) (ad : Nat → Nat) (lo : Int32) (v x y z : Int32) (hv9 : v < 0 ∨ 4 ≤ v) : ZB l yX5_steel wsX5_steel (zrmc 7 103 1 6) (zW ea mi sa) D T [(o, .inr (6, hsF ad lo))] [.ref o, .int (v), .int (x), .int (y), .int (z)] "java/lang/IndexOutOfBoundsException" := by
  refine z_inB (cc := cX5_steel) (maxL := 6) (ret := none) (by decide +kernel) rfl (Nat.le_of_ble_eq_true rfl) ?_
  intro p e s m args below meth c sl9 A hA Z hW Mz9 hl9 hE
  have Z : zC p s m args c cX5_steel 6 RX5 wsX5_steel D T A := Z
  have hx := Z.1.1
  have hb := Z.1.2.1
  have hts := Z.1.2.2.2.2
  have hin5 : ∀ w ∈ wsX50, w ∈ wsX5_steel := by decide +kernel
  have hin4 : ∀ w ∈ wsX40, w ∈ wsX5_steel := by decide +kernel
  have L62 := hts (.fieldLink RX5 62 "AnvilHouse$Steel" "mostHeats" "I") (by decide +kernel)
  have L66 := hts (.fieldLink RX5 66 "AnvilHouse$Steel" "hard" "I") (by decide +kernel)
  have L69 := hts (.fieldLink RX5 69 "AnvilHouse$Steel" "drop" "I") (by decide +kernel)
  have hl9 : lv_has sl9 6 [(0, .ref o), (1, .int (v)), (2, .int (x)), (3, .int (y)), (4, .int (z))] := hl9
  refine lv_aload_n hx hb dX5_steel_0 rfl (lv_at hl9 0 rfl) ?_
  refine lv_iload_n hx hb dX5_steel_1 rfl (lv_at hl9 1 rfl) ?_
  exact z_callB (As := [.int (v)]) (rest := []) (wc := [(o, .inr (6, hsF ad lo))]) (zW_k ea mi sa) hW Z Mz9 hA hE (ch_steelAt_bad l hfl D T ea mi sa o ad lo  v hv9) (cwV 1 hts gX5_steel_X5_steelAt rfl rfl rfl (by decide +kernel) ⟨Nat.le_of_ble_eq_true rfl, Nat.le_of_ble_eq_true rfl⟩) [0] rfl (by decide) (va_recv Z.2.1 Mz9.1 (ci := 6) (q0 := 0) rfl rfl) rfl hl9.1 (Nat.le_of_ble_eq_true rfl) dX5_steel_2 ⟨Nat.le_of_ble_eq_true rfl, Nat.le_of_ble_eq_true rfl⟩ ⟨Nat.le_of_ble_eq_true rfl, Nat.le_of_ble_eq_true rfl⟩ rfl rfl
set_option maxHeartbeats 4000000 in
set_option maxRecDepth 100000 in
theorem ch_steel_a (l : Launch) (hfl : l.stackTraces = false) (D : va_G) (T : Nat → ClassId) (ea mi : Nat) (sa : Nat → Nat) (o : Nat) (ad : Nat → Nat) (lo : Int32) (fs : Nat → Option Nat) (u j : Nat) (hj : j < 4) (hf : fs j = some u) (x y z : Int32) (hv9 : x < 1 ∨ 9 < x ∨ y < 20 ∨ 70 < y ∨ z < 0 ∨ 9 < z) : ZB l yX5_steel wsX5_steel (zrmc 6 82 1 6) (zW ea mi sa) D T [(o, .inr (6, hsF ad lo)), (ad 1, .inl (T 4, 4, qa fs))] [.ref o, .int (nI (j)), .int (x), .int (y), .int (z)] "java/lang/IllegalArgumentException" := by
  refine z_inB (cc := cX5_steel) (maxL := 6) (ret := none) (by decide +kernel) rfl (Nat.le_of_ble_eq_true rfl) ?_
  intro p e s m args below meth c sl9 A hA Z hW Mz9 hl9 hE
  have Z : zC p s m args c cX5_steel 6 RX5 wsX5_steel D T A := Z
  have hx := Z.1.1
  have hb := Z.1.2.1
  have hts := Z.1.2.2.2.2
  have hin5 : ∀ w ∈ wsX50, w ∈ wsX5_steel := by decide +kernel
  have hin4 : ∀ w ∈ wsX40, w ∈ wsX5_steel := by decide +kernel
  have hX9 : ∀ w ∈ Cond.classLink RX5 51 "java/lang/IllegalArgumentException" :: Cond.initialized "java/lang/IllegalArgumentException" :: (vx_atS RX5 55 "java/lang/IllegalArgumentException" zNm).filter goodWord, w ∈ wsX5_steel := by decide +kernel
  have L62 := hts (.fieldLink RX5 62 "AnvilHouse$Steel" "mostHeats" "I") (by decide +kernel)
  have L66 := hts (.fieldLink RX5 66 "AnvilHouse$Steel" "hard" "I") (by decide +kernel)
  have L69 := hts (.fieldLink RX5 69 "AnvilHouse$Steel" "drop" "I") (by decide +kernel)
  have hl9 : lv_has sl9 6 [(0, .ref o), (1, .int (nI (j))), (2, .int (x)), (3, .int (y)), (4, .int (z))] := hl9
  refine lv_aload_n hx hb dX5_steel_0 rfl (lv_at hl9 0 rfl) ?_
  refine lv_iload_n hx hb dX5_steel_1 rfl (lv_at hl9 1 rfl) ?_
  refine z_callVr (As := [.int (nI (j))]) (rest := []) (wc := [(o, .inr (6, hsF ad lo)), (ad 1, .inl (T 4, 4, qa fs))]) Z Mz9 (ch_steelAt l D T o ad lo fs u (j) hj hf) (cwV 1 hts gX5_steel_X5_steelAt rfl rfl rfl (by decide +kernel) ⟨Nat.le_of_ble_eq_true rfl, Nat.le_of_ble_eq_true rfl⟩) [0, 1] rfl (by decide) (fun _ j hj => rfl) (fun _ => Nat.le_refl _) (va_recv Z.2.1 Mz9.1 (ci := 6) (q0 := 0) rfl rfl) rfl hl9.1 (Nat.le_of_ble_eq_true rfl) dX5_steel_2 ⟨Nat.le_of_ble_eq_true rfl, Nat.le_of_ble_eq_true rfl⟩ rfl (fun _ Hp9 lc9 Mz9 => ?_)
  have Mz9 : zM D A s.heap [(o, .inr (6, hsF ad lo)), (ad 1, .inl (T 4, 4, qa fs))] _ _ := Mz9
  refine lv_astore (lv' := [(5, .ref u), (0, .ref o), (1, .int (nI (j))), (2, .int (x)), (3, .int (y)), (4, .int (z))]) hx hb dX5_steel_5 hl9 (by decide) rfl (fun sl9 hl9 => ?_)
  refine lv_iload_n hx hb dX5_steel_7 rfl (lv_at hl9 3 rfl) ?_
  refine lv_iconst (v := 1) hx hb dX5_steel_8 (by decide) ?_
  refine lv_icmp_lt (tgt := 18) hx hb dX5_steel_9 (by decide) (fun c_1 => ?_) (fun c_1 => ?_)
  ·
    exact z_throw Z hW Mz9 hA hE hl9.1 hfl zThr_A hX9 (is := 53) (text := "heats are 1 to 9") (by decide +kernel) dX5_steel_18 dX5_steel_21 dX5_steel_22 dX5_steel_24 dX5_steel_27 (Nat.le_of_ble_eq_true rfl) (Nat.le_of_ble_eq_true rfl) ⟨Nat.le_of_ble_eq_true rfl, Nat.le_of_ble_eq_true rfl⟩ ⟨Nat.le_of_ble_eq_true rfl, Nat.le_of_ble_eq_true rfl⟩ rfl
  ·
    refine lv_iload_n hx hb dX5_steel_12 rfl (lv_at hl9 3 rfl) ?_
    refine lv_bipush (v := 9) hx hb dX5_steel_13 (by decide) ?_
    refine lv_icmp_le (tgt := 28) hx hb dX5_steel_15 (by decide) (fun c_2 => ?_) (fun c_2 => ?_)
    ·
      refine lv_iload_n hx hb dX5_steel_28 rfl (lv_at hl9 4 rfl) ?_
      refine lv_bipush (v := 20) hx hb dX5_steel_29 (by decide) ?_
      refine lv_icmp_lt (tgt := 40) hx hb dX5_steel_31 (by decide) (fun c_3 => ?_) (fun c_3 => ?_)
      ·
        exact z_throw Z hW Mz9 hA hE hl9.1 hfl zThr_A hX9 (is := 58) (text := "a hardness is 20 to 70") (by decide +kernel) dX5_steel_40 dX5_steel_43 dX5_steel_44 dX5_steel_46 dX5_steel_49 (Nat.le_of_ble_eq_true rfl) (Nat.le_of_ble_eq_true rfl) ⟨Nat.le_of_ble_eq_true rfl, Nat.le_of_ble_eq_true rfl⟩ ⟨Nat.le_of_ble_eq_true rfl, Nat.le_of_ble_eq_true rfl⟩ rfl
      ·
        refine lv_iload_n hx hb dX5_steel_34 rfl (lv_at hl9 4 rfl) ?_
        refine lv_bipush (v := 70) hx hb dX5_steel_35 (by decide) ?_
        refine lv_icmp_le (tgt := 50) hx hb dX5_steel_37 (by decide) (fun c_4 => ?_) (fun c_4 => ?_)
        ·
          refine lv_iload hx hb dX5_steel_50 (lv_at hl9 5 rfl) ?_
          refine lv_if_lt (tgt := 62) hx hb dX5_steel_52 (by decide) (fun c_5 => ?_) (fun c_5 => ?_)
          ·
            exact z_throw Z hW Mz9 hA hE hl9.1 hfl zThr_A hX9 (is := 60) (text := "a drop is 0 to 9") (by decide +kernel) dX5_steel_62 dX5_steel_65 dX5_steel_66 dX5_steel_68 dX5_steel_71 (Nat.le_of_ble_eq_true rfl) (Nat.le_of_ble_eq_true rfl) ⟨Nat.le_of_ble_eq_true rfl, Nat.le_of_ble_eq_true rfl⟩ ⟨Nat.le_of_ble_eq_true rfl, Nat.le_of_ble_eq_true rfl⟩ rfl
          ·
            refine lv_iload hx hb dX5_steel_55 (lv_at hl9 5 rfl) ?_
            refine lv_bipush (v := 9) hx hb dX5_steel_57 (by decide) ?_
            refine lv_icmp_le (tgt := 72) hx hb dX5_steel_59 (by decide) (fun c_6 => ?_) (fun c_6 => ?_)
            ·
              exact False.elim (by rcases hv9 with h | h | h | h | h | h <;> first | exact absurd h c_1 | exact absurd c_1 h | exact absurd h (Int32.not_lt.mpr c_1) | exact absurd (Int32.not_le.mp c_1) (Int32.not_lt.mpr h) | exact absurd c_1 (Int32.not_lt.mpr h) | exact absurd h c_2 | exact absurd c_2 h | exact absurd h (Int32.not_lt.mpr c_2) | exact absurd (Int32.not_le.mp c_2) (Int32.not_lt.mpr h) | exact absurd c_2 (Int32.not_lt.mpr h) | exact absurd h c_3 | exact absurd c_3 h | exact absurd h (Int32.not_lt.mpr c_3) | exact absurd (Int32.not_le.mp c_3) (Int32.not_lt.mpr h) | exact absurd c_3 (Int32.not_lt.mpr h) | exact absurd h c_4 | exact absurd c_4 h | exact absurd h (Int32.not_lt.mpr c_4) | exact absurd (Int32.not_le.mp c_4) (Int32.not_lt.mpr h) | exact absurd c_4 (Int32.not_lt.mpr h) | exact absurd h c_5 | exact absurd c_5 h | exact absurd h (Int32.not_lt.mpr c_5) | exact absurd (Int32.not_le.mp c_5) (Int32.not_lt.mpr h) | exact absurd c_5 (Int32.not_lt.mpr h) | exact absurd h c_6 | exact absurd c_6 h | exact absurd h (Int32.not_lt.mpr c_6) | exact absurd (Int32.not_le.mp c_6) (Int32.not_lt.mpr h) | exact absurd c_6 (Int32.not_lt.mpr h))
            ·
              exact z_throw Z hW Mz9 hA hE hl9.1 hfl zThr_A hX9 (is := 60) (text := "a drop is 0 to 9") (by decide +kernel) dX5_steel_62 dX5_steel_65 dX5_steel_66 dX5_steel_68 dX5_steel_71 (Nat.le_of_ble_eq_true rfl) (Nat.le_of_ble_eq_true rfl) ⟨Nat.le_of_ble_eq_true rfl, Nat.le_of_ble_eq_true rfl⟩ ⟨Nat.le_of_ble_eq_true rfl, Nat.le_of_ble_eq_true rfl⟩ rfl
        ·
          exact z_throw Z hW Mz9 hA hE hl9.1 hfl zThr_A hX9 (is := 58) (text := "a hardness is 20 to 70") (by decide +kernel) dX5_steel_40 dX5_steel_43 dX5_steel_44 dX5_steel_46 dX5_steel_49 (Nat.le_of_ble_eq_true rfl) (Nat.le_of_ble_eq_true rfl) ⟨Nat.le_of_ble_eq_true rfl, Nat.le_of_ble_eq_true rfl⟩ ⟨Nat.le_of_ble_eq_true rfl, Nat.le_of_ble_eq_true rfl⟩ rfl
    ·
      exact z_throw Z hW Mz9 hA hE hl9.1 hfl zThr_A hX9 (is := 53) (text := "heats are 1 to 9") (by decide +kernel) dX5_steel_18 dX5_steel_21 dX5_steel_22 dX5_steel_24 dX5_steel_27 (Nat.le_of_ble_eq_true rfl) (Nat.le_of_ble_eq_true rfl) ⟨Nat.le_of_ble_eq_true rfl, Nat.le_of_ble_eq_true rfl⟩ ⟨Nat.le_of_ble_eq_true rfl, Nat.le_of_ble_eq_true rfl⟩ rfl
