/-! ===== laid by program ===== -/
/-! ===== the house: warmth ===== -/
set_option maxHeartbeats 4000000 in
set_option maxRecDepth 100000 in
theorem ch_heat (l : Launch) (D : va_G) (T : Nat → ClassId) (o : Nat) (ad : Nat → Nat) (lo : Int32) (kb : Int32) (rb n g : Nat) (fb : Nat → Option Nat) (h a q u : Nat) (β α κ τ : Nat → Int32) (i : Nat) (hi : i < g) (hg : g ≤ n) (hn : n ≤ 40000) (hf : fb i = some h) (f : Int32) (m9 : Nat) (hf1 : ¬ f < 200) (hf2 : f ≤ 1300) (hm1 : 1 ≤ m9) (hm2 : m9 ≤ 200) (hh : β 9 < τ 0) (hgr : bnd 200 (β 10)) : ZI l yX5_heat wsX5_heat (zrm 4 85) D T [(o, .inr (6, hsF ad lo)), (ad 7, .inr (0, [.int (kb), .ref rb, .int (nI (g))])), (rb, .inl (T 3, n, qa fb)), (h, .inr (1, biF a q u β)), (a, .inl (T 0, 8, .inl α)), (q, .inl (T 0, 8, .inl κ)), (u, .inr (5, [.int (τ 0), .int (τ 1), .int (τ 2)]))] [(o, .inr (6, hsF ad lo)), (ad 7, .inr (0, [.int (kb), .ref rb, .int (nI (g))])), (rb, .inl (T 3, n, qa fb)), (h, .inr (1, biF a q u (upd (upd (upd (upd (upd (upd β 4 (hLo f (β 7) 0 α (β 4) (m9))) 7 (hSk f (β 7) (m9))) 8 (hCo f (β 7) (β 8) (m9))) 9 (β 9 + 1)) 10 (hGr f (β 7) (β 8) (β 10) (m9))) 14 (-1)))), (a, .inl (T 0, 8, .inl (hAr f (β 7) 0 α (m9)))), (q, .inl (T 0, 8, .inl κ)), (u, .inr (5, [.int (τ 0), .int (τ 1), .int (τ 2)]))] [.ref o, .int (nI (i)), .int (f), .int (nI (m9))] (hCo f (β 7) (β 8) m9) 0 0 := by
  refine z_inI (cc := cX5_heat) (maxL := 5) (rt := .int) (by decide +kernel) rfl (Nat.le_of_ble_eq_true rfl) ?_
  intro p e s m args below meth c sl9 A Q Z hnm Mz9 hl9 hret
  have Z : zC p s m args c cX5_heat 5 RX5 wsX5_heat D T A := Z
  have hx := Z.1.1
  have hb := Z.1.2.1
  have hts := Z.1.2.2.2.2
  have hin5 : ∀ w ∈ wsX50, w ∈ wsX5_heat := by decide +kernel
  have hinL : ∀ w ∈ wsJx4a65c0, w ∈ wsX5_heat := by decide +kernel
  have hin0 : ∀ w ∈ wsX00, w ∈ wsX5_heat := by decide +kernel
  have hin4 : ∀ w ∈ wsX40, w ∈ wsX5_heat := by decide +kernel
  have L116 := hts (.fieldLink RX5 116 "AnvilHouse$Billet" "heats" "I") (by decide +kernel)
  have L161 := hts (.fieldLink RX5 161 "AnvilHouse$Billet" "steel" "LAnvilHouse$Steel;") (by decide +kernel)
  have L62 := hts (.fieldLink RX5 62 "AnvilHouse$Steel" "mostHeats" "I") (by decide +kernel)
  have L110 := hts (.fieldLink RX5 110 "AnvilHouse$Billet" "core" "I") (by decide +kernel)
  have hl9 : lv_has sl9 5 [(0, .ref o), (1, .int (nI (i))), (2, .int (f)), (3, .int (nI (m9)))] := hl9
  refine lv_aload_n hx hb dX5_heat_0 rfl (lv_at hl9 0 rfl) ?_
  refine lv_iload_n hx hb dX5_heat_1 rfl (lv_at hl9 1 rfl) ?_
  refine z_callVr (As := [.int (nI (i))]) (rest := []) (wc := [(o, .inr (6, hsF ad lo)), (ad 7, .inr (0, [.int (kb), .ref rb, .int (nI (g))])), (rb, .inl (T 3, n, qa fb)), (h, .inr (1, biF a q u β))]) Z Mz9 (ch_billetAt l D T o ad lo kb rb n g fb h (biF a q u β) i hi hg hn hf) (cwV 1 hts gX5_heat_X5_billetAt rfl rfl rfl (by decide +kernel) ⟨Nat.le_of_ble_eq_true rfl, Nat.le_of_ble_eq_true rfl⟩) [0, 1, 2, 3] rfl (by decide) (fun _ j hj => rfl) (fun _ => Nat.le_refl _) (va_recv Z.2.1 Mz9.1 (ci := 6) (q0 := 0) rfl rfl) rfl hl9.1 (Nat.le_of_ble_eq_true rfl) dX5_heat_2 ⟨Nat.le_of_ble_eq_true rfl, Nat.le_of_ble_eq_true rfl⟩ rfl (fun _ Hp9 lc9 Mz9 => ?_)
  have Mz9 : zM D A s.heap [(o, .inr (6, hsF ad lo)), (ad 7, .inr (0, [.int (kb), .ref rb, .int (nI (g))])), (rb, .inl (T 3, n, qa fb)), (h, .inr (1, biF a q u β)), (a, .inl (T 0, 8, .inl α)), (q, .inl (T 0, 8, .inl κ)), (u, .inr (5, [.int (τ 0), .int (τ 1), .int (τ 2)]))] _ _ := Mz9
  refine lv_astore (lv' := [(4, .ref h), (0, .ref o), (1, .int (nI (i))), (2, .int (f)), (3, .int (nI (m9)))]) hx hb dX5_heat_5 hl9 (by decide) rfl (fun sl9 hl9 => ?_)
  refine lv_iload_n hx hb dX5_heat_7 rfl (lv_at hl9 3 rfl) ?_
  refine lv_sipush (v := 200) hx hb dX5_heat_8 (by decide) ?_
  refine lv_icmp_lt (tgt := 21) hx hb dX5_heat_11 (by decide) (fun h => absurd h (hf1)) (fun _ => ?_)
  refine lv_iload_n hx hb dX5_heat_14 rfl (lv_at hl9 3 rfl) ?_
  refine lv_sipush (v := 1300) hx hb dX5_heat_15 (by decide) ?_
  refine lv_icmp_le (tgt := 31) hx hb dX5_heat_18 (by decide) (fun _ => ?_) (fun h => absurd h (fun z => z hf2))
  refine lv_iload_n hx hb dX5_heat_31 rfl (lv_at hl9 4 rfl) ?_
  refine z_callSv (As := [.int (nI (m9))]) (rest := []) (wc := []) (wc' := []) Z Mz9 (ch_refuseMinutes l D T (m9) hm1 hm2) (va_cwS 1 hts gX5_heat_X5_refuseMinutes rfl rfl rfl (by decide +kernel) ⟨Nat.le_of_ble_eq_true rfl, Nat.le_of_ble_eq_true rfl⟩) [] rfl (by decide) (fun j hj => rfl) (Nat.le_refl _) rfl hl9.1 (Nat.le_of_ble_eq_true rfl) dX5_heat_32 ⟨Nat.le_of_ble_eq_true rfl, Nat.le_of_ble_eq_true rfl⟩ rfl (fun Hp9 lc9 Mz9 => ?_)
  have Mz9 : zM D A s.heap [(o, .inr (6, hsF ad lo)), (ad 7, .inr (0, [.int (kb), .ref rb, .int (nI (g))])), (rb, .inl (T 3, n, qa fb)), (h, .inr (1, biF a q u β)), (a, .inl (T 0, 8, .inl α)), (q, .inl (T 0, 8, .inl κ)), (u, .inr (5, [.int (τ 0), .int (τ 1), .int (τ 2)]))] _ _ := Mz9
  refine lv_aload hx hb dX5_heat_35 (lv_at hl9 0 rfl) ?_
  refine z_getf Z Mz9 hin0 3 rfl rfl 9 (by decide) L116 rfl (v := .int (β 9)) rfl dX5_heat_37 ?_
  refine lv_aload hx hb dX5_heat_40 (lv_at hl9 0 rfl) ?_
  refine z_getf Z Mz9 hin0 3 rfl rfl 1 (by decide) L161 rfl (v := .ref u) rfl dX5_heat_42 ?_
  refine z_getf Z Mz9 hin4 6 rfl rfl 0 (by decide) L62 rfl (v := .int (τ 0)) rfl dX5_heat_45 ?_
  refine lv_icmp_lt (tgt := 61) hx hb dX5_heat_48 (by decide) (fun _ => ?_) (fun h => absurd h (fun z => z hh))
  refine lv_aload hx hb dX5_heat_61 (lv_at hl9 0 rfl) ?_
  refine lv_iload_n hx hb dX5_heat_63 rfl (lv_at hl9 3 rfl) ?_
  refine lv_iload_n hx hb dX5_heat_64 rfl (lv_at hl9 4 rfl) ?_
  refine z_callVv (As := [.int (f), .int (nI (m9))]) (rest := []) (wc := biW h a q u T β α κ τ) (wc' := biW h a q u T (upd (upd (upd (upd (upd (upd β 4 (hLo f (β 7) 0 α (β 4) (m9))) 7 (hSk f (β 7) (m9))) 8 (hCo f (β 7) (β 8) (m9))) 9 ((β 9) + 1)) 10 (hGr f (β 7) (β 8) (β 10) (m9))) 14 (-1)) (hAr f (β 7) 0 α (m9)) κ τ) Z Mz9 (cb_standInFurnace l D T h a q u β α κ τ f (m9) hm2 hgr) (cwV 2 hts gX5_heat_X0_standInFurnace rfl rfl rfl (by decide +kernel) ⟨Nat.le_of_ble_eq_true rfl, Nat.le_of_ble_eq_true rfl⟩) [3, 4, 5, 6] rfl (by decide) (fun j hj => rfl) (Nat.le_refl _) (va_recv Z.2.1 Mz9.1 (ci := 1) (q0 := 3) rfl rfl) rfl hl9.1 (Nat.le_of_ble_eq_true rfl) dX5_heat_65 ⟨Nat.le_of_ble_eq_true rfl, Nat.le_of_ble_eq_true rfl⟩ rfl (fun Hp9 lc9 Mz9 => ?_)
  have Mz9 : zM D A s.heap [(o, .inr (6, hsF ad lo)), (ad 7, .inr (0, [.int (kb), .ref rb, .int (nI (g))])), (rb, .inl (T 3, n, qa fb)), (h, .inr (1, biF a q u (upd (upd (upd (upd (upd (upd β 4 (hLo f (β 7) 0 α (β 4) (m9))) 7 (hSk f (β 7) (m9))) 8 (hCo f (β 7) (β 8) (m9))) 9 ((β 9) + 1)) 10 (hGr f (β 7) (β 8) (β 10) (m9))) 14 (-1)))), (a, .inl (T 0, 8, .inl (hAr f (β 7) 0 α (m9)))), (q, .inl (T 0, 8, .inl κ)), (u, .inr (5, [.int (τ 0), .int (τ 1), .int (τ 2)]))] _ _ := Mz9
  refine lv_aload hx hb dX5_heat_68 (lv_at hl9 0 rfl) ?_
  refine z_getf Z Mz9 hin0 3 rfl rfl 8 (by decide) L110 rfl (v := .int (hCo f (β 7) (β 8) (m9))) rfl dX5_heat_70 ?_
  exact hret _ _ _ _ _ sl9 _ _ Mz9 (rfl) (rfl) (rfl) (Nat.le_of_ble_eq_true rfl) (Nat.le_of_ble_eq_true rfl) dX5_heat_73
set_option maxHeartbeats 4000000 in
set_option maxRecDepth 100000 in
theorem ch_heat_b (l : Launch) (hfl : l.stackTraces = false) (D : va_G) (T : Nat → ClassId) (ea mi : Nat) (sa : Nat → Nat) (o : Nat) (ad : Nat → Nat) (lo : Int32) (kb : Int32) (rb g : Nat) (v : Int32) (f t : Int32) (hv9 : v < 0 ∨ nI g ≤ v) : ZB l yX5_heat wsX5_heat (zrmc 7 103 1 6) (zW ea mi sa) D T [(o, .inr (6, hsF ad lo)), (ad 7, .inr (0, [.int (kb), .ref rb, .int (nI (g))]))] [.ref o, .int (v), .int (f), .int (t)] "java/lang/IndexOutOfBoundsException" := by
  refine z_inB (cc := cX5_heat) (maxL := 5) (ret := (some .int)) (by decide +kernel) rfl (Nat.le_of_ble_eq_true rfl) ?_
  intro p e s m args below meth c sl9 A hA Z hW Mz9 hl9 hE
  have Z : zC p s m args c cX5_heat 5 RX5 wsX5_heat D T A := Z
  have hx := Z.1.1
  have hb := Z.1.2.1
  have hts := Z.1.2.2.2.2
  have hin5 : ∀ w ∈ wsX50, w ∈ wsX5_heat := by decide +kernel
  have hinL : ∀ w ∈ wsJx4a65c0, w ∈ wsX5_heat := by decide +kernel
  have hin0 : ∀ w ∈ wsX00, w ∈ wsX5_heat := by decide +kernel
  have hin4 : ∀ w ∈ wsX40, w ∈ wsX5_heat := by decide +kernel
  have L116 := hts (.fieldLink RX5 116 "AnvilHouse$Billet" "heats" "I") (by decide +kernel)
  have L161 := hts (.fieldLink RX5 161 "AnvilHouse$Billet" "steel" "LAnvilHouse$Steel;") (by decide +kernel)
  have L62 := hts (.fieldLink RX5 62 "AnvilHouse$Steel" "mostHeats" "I") (by decide +kernel)
  have L110 := hts (.fieldLink RX5 110 "AnvilHouse$Billet" "core" "I") (by decide +kernel)
  have hl9 : lv_has sl9 5 [(0, .ref o), (1, .int (v)), (2, .int (f)), (3, .int (t))] := hl9
  refine lv_aload_n hx hb dX5_heat_0 rfl (lv_at hl9 0 rfl) ?_
  refine lv_iload_n hx hb dX5_heat_1 rfl (lv_at hl9 1 rfl) ?_
  exact z_callB (As := [.int (v)]) (rest := []) (wc := [(o, .inr (6, hsF ad lo)), (ad 7, .inr (0, [.int (kb), .ref rb, .int (nI (g))]))]) (zW_k ea mi sa) hW Z Mz9 hA hE (ch_billetAt_bad l hfl D T ea mi sa o ad lo kb rb g v hv9) (cwV 1 hts gX5_heat_X5_billetAt rfl rfl rfl (by decide +kernel) ⟨Nat.le_of_ble_eq_true rfl, Nat.le_of_ble_eq_true rfl⟩) [0, 1] rfl (by decide) (va_recv Z.2.1 Mz9.1 (ci := 6) (q0 := 0) rfl rfl) rfl hl9.1 (Nat.le_of_ble_eq_true rfl) dX5_heat_2 ⟨Nat.le_of_ble_eq_true rfl, Nat.le_of_ble_eq_true rfl⟩ ⟨Nat.le_of_ble_eq_true rfl, Nat.le_of_ble_eq_true rfl⟩ rfl rfl
set_option maxHeartbeats 4000000 in
set_option maxRecDepth 100000 in
theorem ch_heat_f (l : Launch) (hfl : l.stackTraces = false) (D : va_G) (T : Nat → ClassId) (ea mi : Nat) (sa : Nat → Nat) (o : Nat) (ad : Nat → Nat) (lo : Int32) (kb : Int32) (rb n g : Nat) (fb : Nat → Option Nat) (h a q u : Nat) (β : Nat → Int32) (i : Nat) (hi : i < g) (hg : g ≤ n) (hn : n ≤ 40000) (hf : fb i = some h) (f t : Int32) (hv9 : f < 200 ∨ 1300 < f) : ZB l yX5_heat wsX5_heat (zrmc 6 85 1 6) (zW ea mi sa) D T [(o, .inr (6, hsF ad lo)), (ad 7, .inr (0, [.int (kb), .ref rb, .int (nI (g))])), (rb, .inl (T 3, n, qa fb)), (h, .inr (1, biF a q u β))] [.ref o, .int (nI (i)), .int (f), .int (t)] "java/lang/IllegalArgumentException" := by
  refine z_inB (cc := cX5_heat) (maxL := 5) (ret := (some .int)) (by decide +kernel) rfl (Nat.le_of_ble_eq_true rfl) ?_
  intro p e s m args below meth c sl9 A hA Z hW Mz9 hl9 hE
  have Z : zC p s m args c cX5_heat 5 RX5 wsX5_heat D T A := Z
  have hx := Z.1.1
  have hb := Z.1.2.1
  have hts := Z.1.2.2.2.2
  have hin5 : ∀ w ∈ wsX50, w ∈ wsX5_heat := by decide +kernel
  have hinL : ∀ w ∈ wsJx4a65c0, w ∈ wsX5_heat := by decide +kernel
  have hin0 : ∀ w ∈ wsX00, w ∈ wsX5_heat := by decide +kernel
  have hin4 : ∀ w ∈ wsX40, w ∈ wsX5_heat := by decide +kernel
  have hX9 : ∀ w ∈ Cond.classLink RX5 51 "java/lang/IllegalArgumentException" :: Cond.initialized "java/lang/IllegalArgumentException" :: (vx_atS RX5 55 "java/lang/IllegalArgumentException" zNm).filter goodWord, w ∈ wsX5_heat := by decide +kernel
  have L116 := hts (.fieldLink RX5 116 "AnvilHouse$Billet" "heats" "I") (by decide +kernel)
  have L161 := hts (.fieldLink RX5 161 "AnvilHouse$Billet" "steel" "LAnvilHouse$Steel;") (by decide +kernel)
  have L62 := hts (.fieldLink RX5 62 "AnvilHouse$Steel" "mostHeats" "I") (by decide +kernel)
  have L110 := hts (.fieldLink RX5 110 "AnvilHouse$Billet" "core" "I") (by decide +kernel)
  have hl9 : lv_has sl9 5 [(0, .ref o), (1, .int (nI (i))), (2, .int (f)), (3, .int (t))] := hl9
  refine lv_aload_n hx hb dX5_heat_0 rfl (lv_at hl9 0 rfl) ?_
  refine lv_iload_n hx hb dX5_heat_1 rfl (lv_at hl9 1 rfl) ?_
  refine z_callVr (As := [.int (nI (i))]) (rest := []) (wc := [(o, .inr (6, hsF ad lo)), (ad 7, .inr (0, [.int (kb), .ref rb, .int (nI (g))])), (rb, .inl (T 3, n, qa fb)), (h, .inr (1, biF a q u β))]) Z Mz9 (ch_billetAt l D T o ad lo kb rb n g fb h (biF a q u β) i hi hg hn hf) (cwV 1 hts gX5_heat_X5_billetAt rfl rfl rfl (by decide +kernel) ⟨Nat.le_of_ble_eq_true rfl, Nat.le_of_ble_eq_true rfl⟩) [0, 1, 2, 3] rfl (by decide) (fun _ j hj => rfl) (fun _ => Nat.le_refl _) (va_recv Z.2.1 Mz9.1 (ci := 6) (q0 := 0) rfl rfl) rfl hl9.1 (Nat.le_of_ble_eq_true rfl) dX5_heat_2 ⟨Nat.le_of_ble_eq_true rfl, Nat.le_of_ble_eq_true rfl⟩ rfl (fun _ Hp9 lc9 Mz9 => ?_)
  have Mz9 : zM D A s.heap [(o, .inr (6, hsF ad lo)), (ad 7, .inr (0, [.int (kb), .ref rb, .int (nI (g))])), (rb, .inl (T 3, n, qa fb)), (h, .inr (1, biF a q u β))] _ _ := Mz9
  refine lv_astore (lv' := [(4, .ref h), (0, .ref o), (1, .int (nI (i))), (2, .int (f)), (3, .int (t))]) hx hb dX5_heat_5 hl9 (by decide) rfl (fun sl9 hl9 => ?_)
  refine lv_iload_n hx hb dX5_heat_7 rfl (lv_at hl9 3 rfl) ?_
  refine lv_sipush (v := 200) hx hb dX5_heat_8 (by decide) ?_
  refine lv_icmp_lt (tgt := 21) hx hb dX5_heat_11 (by decide) (fun c_1 => ?_) (fun c_1 => ?_)
  ·
    exact z_throw Z hW Mz9 hA hE hl9.1 hfl zThr_A hX9 (is := 156) (text := "a furnace is of 200 to 1300") (by decide +kernel) dX5_heat_21 dX5_heat_24 dX5_heat_25 dX5_heat_27 dX5_heat_30 (Nat.le_of_ble_eq_true rfl) (Nat.le_of_ble_eq_true rfl) ⟨Nat.le_of_ble_eq_true rfl, Nat.le_of_ble_eq_true rfl⟩ ⟨Nat.le_of_ble_eq_true rfl, Nat.le_of_ble_eq_true rfl⟩ rfl
  ·
    refine lv_iload_n hx hb dX5_heat_14 rfl (lv_at hl9 3 rfl) ?_
    refine lv_sipush (v := 1300) hx hb dX5_heat_15 (by decide) ?_
    refine lv_icmp_le (tgt := 31) hx hb dX5_heat_18 (by decide) (fun c_2 => ?_) (fun c_2 => ?_)
    ·
      exact False.elim (by rcases hv9 with h | h <;> first | exact absurd h c_1 | exact absurd c_1 h | exact absurd h (Int32.not_lt.mpr c_1) | exact absurd (Int32.not_le.mp c_1) (Int32.not_lt.mpr h) | exact absurd c_1 (Int32.not_lt.mpr h) | exact absurd h c_2 | exact absurd c_2 h | exact absurd h (Int32.not_lt.mpr c_2) | exact absurd (Int32.not_le.mp c_2) (Int32.not_lt.mpr h) | exact absurd c_2 (Int32.not_lt.mpr h))
    ·
      exact z_throw Z hW Mz9 hA hE hl9.1 hfl zThr_A hX9 (is := 156) (text := "a furnace is of 200 to 1300") (by decide +kernel) dX5_heat_21 dX5_heat_24 dX5_heat_25 dX5_heat_27 dX5_heat_30 (Nat.le_of_ble_eq_true rfl) (Nat.le_of_ble_eq_true rfl) ⟨Nat.le_of_ble_eq_true rfl, Nat.le_of_ble_eq_true rfl⟩ ⟨Nat.le_of_ble_eq_true rfl, Nat.le_of_ble_eq_true rfl⟩ rfl
set_option maxHeartbeats 4000000 in
set_option maxRecDepth 100000 in
theorem ch_heat_m (l : Launch) (hfl : l.stackTraces = false) (D : va_G) (T : Nat → ClassId) (ea mi : Nat) (sa : Nat → Nat) (o : Nat) (ad : Nat → Nat) (lo : Int32) (kb : Int32) (rb n g : Nat) (fb : Nat → Option Nat) (h a q u : Nat) (β : Nat → Int32) (i : Nat) (hi : i < g) (hg : g ≤ n) (hn : n ≤ 40000) (hf : fb i = some h) (f t : Int32) (hf1 : ¬ f < 200) (hf2 : f ≤ 1300) (hv9 : t < 1 ∨ 200 < t) : ZB l yX5_heat wsX5_heat (zrmc 7 102 1 6) (zW ea mi sa) D T [(o, .inr (6, hsF ad lo)), (ad 7, .inr (0, [.int (kb), .ref rb, .int (nI (g))])), (rb, .inl (T 3, n, qa fb)), (h, .inr (1, biF a q u β))] [.ref o, .int (nI (i)), .int (f), .int (t)] "java/lang/IllegalArgumentException" := by
  refine z_inB (cc := cX5_heat) (maxL := 5) (ret := (some .int)) (by decide +kernel) rfl (Nat.le_of_ble_eq_true rfl) ?_
  intro p e s m args below meth c sl9 A hA Z hW Mz9 hl9 hE
  have Z : zC p s m args c cX5_heat 5 RX5 wsX5_heat D T A := Z
  have hx := Z.1.1
  have hb := Z.1.2.1
  have hts := Z.1.2.2.2.2
  have hin5 : ∀ w ∈ wsX50, w ∈ wsX5_heat := by decide +kernel
  have hinL : ∀ w ∈ wsJx4a65c0, w ∈ wsX5_heat := by decide +kernel
  have hin0 : ∀ w ∈ wsX00, w ∈ wsX5_heat := by decide +kernel
  have hin4 : ∀ w ∈ wsX40, w ∈ wsX5_heat := by decide +kernel
  have L116 := hts (.fieldLink RX5 116 "AnvilHouse$Billet" "heats" "I") (by decide +kernel)
  have L161 := hts (.fieldLink RX5 161 "AnvilHouse$Billet" "steel" "LAnvilHouse$Steel;") (by decide +kernel)
  have L62 := hts (.fieldLink RX5 62 "AnvilHouse$Steel" "mostHeats" "I") (by decide +kernel)
  have L110 := hts (.fieldLink RX5 110 "AnvilHouse$Billet" "core" "I") (by decide +kernel)
  have hl9 : lv_has sl9 5 [(0, .ref o), (1, .int (nI (i))), (2, .int (f)), (3, .int (t))] := hl9
  refine lv_aload_n hx hb dX5_heat_0 rfl (lv_at hl9 0 rfl) ?_
  refine lv_iload_n hx hb dX5_heat_1 rfl (lv_at hl9 1 rfl) ?_
  refine z_callVr (As := [.int (nI (i))]) (rest := []) (wc := [(o, .inr (6, hsF ad lo)), (ad 7, .inr (0, [.int (kb), .ref rb, .int (nI (g))])), (rb, .inl (T 3, n, qa fb)), (h, .inr (1, biF a q u β))]) Z Mz9 (ch_billetAt l D T o ad lo kb rb n g fb h (biF a q u β) i hi hg hn hf) (cwV 1 hts gX5_heat_X5_billetAt rfl rfl rfl (by decide +kernel) ⟨Nat.le_of_ble_eq_true rfl, Nat.le_of_ble_eq_true rfl⟩) [0, 1, 2, 3] rfl (by decide) (fun _ j hj => rfl) (fun _ => Nat.le_refl _) (va_recv Z.2.1 Mz9.1 (ci := 6) (q0 := 0) rfl rfl) rfl hl9.1 (Nat.le_of_ble_eq_true rfl) dX5_heat_2 ⟨Nat.le_of_ble_eq_true rfl, Nat.le_of_ble_eq_true rfl⟩ rfl (fun _ Hp9 lc9 Mz9 => ?_)
  have Mz9 : zM D A s.heap [(o, .inr (6, hsF ad lo)), (ad 7, .inr (0, [.int (kb), .ref rb, .int (nI (g))])), (rb, .inl (T 3, n, qa fb)), (h, .inr (1, biF a q u β))] _ _ := Mz9
  refine lv_astore (lv' := [(4, .ref h), (0, .ref o), (1, .int (nI (i))), (2, .int (f)), (3, .int (t))]) hx hb dX5_heat_5 hl9 (by decide) rfl (fun sl9 hl9 => ?_)
  refine lv_iload_n hx hb dX5_heat_7 rfl (lv_at hl9 3 rfl) ?_
  refine lv_sipush (v := 200) hx hb dX5_heat_8 (by decide) ?_
  refine lv_icmp_lt (tgt := 21) hx hb dX5_heat_11 (by decide) (fun h => absurd h (hf1)) (fun _ => ?_)
  refine lv_iload_n hx hb dX5_heat_14 rfl (lv_at hl9 3 rfl) ?_
  refine lv_sipush (v := 1300) hx hb dX5_heat_15 (by decide) ?_
  refine lv_icmp_le (tgt := 31) hx hb dX5_heat_18 (by decide) (fun _ => ?_) (fun h => absurd h (fun z => z hf2))
  refine lv_iload_n hx hb dX5_heat_31 rfl (lv_at hl9 4 rfl) ?_
  exact z_callSB (As := [.int (t)]) (rest := []) (wc := []) (zW_k ea mi sa) hW Z Mz9 hA hE (ch_refuseMinutes_bad l hfl D T ea mi sa t hv9) (va_cwS 1 hts gX5_heat_X5_refuseMinutes rfl rfl rfl (by decide +kernel) ⟨Nat.le_of_ble_eq_true rfl, Nat.le_of_ble_eq_true rfl⟩) [] rfl (by decide) rfl hl9.1 (Nat.le_of_ble_eq_true rfl) dX5_heat_32 ⟨Nat.le_of_ble_eq_true rfl, Nat.le_of_ble_eq_true rfl⟩ ⟨Nat.le_of_ble_eq_true rfl, Nat.le_of_ble_eq_true rfl⟩ rfl rfl
set_option maxHeartbeats 4000000 in
set_option maxRecDepth 100000 in
theorem ch_heat_h (l : Launch) (hfl : l.stackTraces = false) (D : va_G) (T : Nat → ClassId) (ea mi : Nat) (sa : Nat → Nat) (o : Nat) (ad : Nat → Nat) (lo : Int32) (kb : Int32) (rb n g : Nat) (fb : Nat → Option Nat) (h a q u : Nat) (β τ : Nat → Int32) (i : Nat) (hi : i < g) (hg : g ≤ n) (hn : n ≤ 40000) (hf : fb i = some h) (f : Int32) (m9 : Nat) (hf1 : ¬ f < 200) (hf2 : f ≤ 1300) (hm1 : 1 ≤ m9) (hm2 : m9 ≤ 200) (hh : ¬ β 9 < τ 0) : ZB l yX5_heat wsX5_heat (zrmc 6 85 1 6) (zW ea mi sa) D T [(o, .inr (6, hsF ad lo)), (ad 7, .inr (0, [.int (kb), .ref rb, .int (nI (g))])), (rb, .inl (T 3, n, qa fb)), (h, .inr (1, biF a q u β)), (u, .inr (5, [.int (τ 0), .int (τ 1), .int (τ 2)]))] [.ref o, .int (nI (i)), .int (f), .int (nI (m9))] "java/lang/IllegalStateException" := by
  refine z_inB (cc := cX5_heat) (maxL := 5) (ret := (some .int)) (by decide +kernel) rfl (Nat.le_of_ble_eq_true rfl) ?_
  intro p e s m args below meth c sl9 A hA Z hW Mz9 hl9 hE
  have Z : zC p s m args c cX5_heat 5 RX5 wsX5_heat D T A := Z
  have hx := Z.1.1
  have hb := Z.1.2.1
  have hts := Z.1.2.2.2.2
  have hin5 : ∀ w ∈ wsX50, w ∈ wsX5_heat := by decide +kernel
  have hinL : ∀ w ∈ wsJx4a65c0, w ∈ wsX5_heat := by decide +kernel
  have hin0 : ∀ w ∈ wsX00, w ∈ wsX5_heat := by decide +kernel
  have hin4 : ∀ w ∈ wsX40, w ∈ wsX5_heat := by decide +kernel
  have hX9 : ∀ w ∈ Cond.classLink RX5 76 "java/lang/IllegalStateException" :: Cond.initialized "java/lang/IllegalStateException" :: (vx_atS RX5 80 "java/lang/IllegalStateException" zNm).filter goodWord, w ∈ wsX5_heat := by decide +kernel
  have L116 := hts (.fieldLink RX5 116 "AnvilHouse$Billet" "heats" "I") (by decide +kernel)
  have L161 := hts (.fieldLink RX5 161 "AnvilHouse$Billet" "steel" "LAnvilHouse$Steel;") (by decide +kernel)
  have L62 := hts (.fieldLink RX5 62 "AnvilHouse$Steel" "mostHeats" "I") (by decide +kernel)
  have L110 := hts (.fieldLink RX5 110 "AnvilHouse$Billet" "core" "I") (by decide +kernel)
  have hl9 : lv_has sl9 5 [(0, .ref o), (1, .int (nI (i))), (2, .int (f)), (3, .int (nI (m9)))] := hl9
  refine lv_aload_n hx hb dX5_heat_0 rfl (lv_at hl9 0 rfl) ?_
  refine lv_iload_n hx hb dX5_heat_1 rfl (lv_at hl9 1 rfl) ?_
  refine z_callVr (As := [.int (nI (i))]) (rest := []) (wc := [(o, .inr (6, hsF ad lo)), (ad 7, .inr (0, [.int (kb), .ref rb, .int (nI (g))])), (rb, .inl (T 3, n, qa fb)), (h, .inr (1, biF a q u β))]) Z Mz9 (ch_billetAt l D T o ad lo kb rb n g fb h (biF a q u β) i hi hg hn hf) (cwV 1 hts gX5_heat_X5_billetAt rfl rfl rfl (by decide +kernel) ⟨Nat.le_of_ble_eq_true rfl, Nat.le_of_ble_eq_true rfl⟩) [0, 1, 2, 3] rfl (by decide) (fun _ j hj => rfl) (fun _ => Nat.le_refl _) (va_recv Z.2.1 Mz9.1 (ci := 6) (q0 := 0) rfl rfl) rfl hl9.1 (Nat.le_of_ble_eq_true rfl) dX5_heat_2 ⟨Nat.le_of_ble_eq_true rfl, Nat.le_of_ble_eq_true rfl⟩ rfl (fun _ Hp9 lc9 Mz9 => ?_)
  have Mz9 : zM D A s.heap [(o, .inr (6, hsF ad lo)), (ad 7, .inr (0, [.int (kb), .ref rb, .int (nI (g))])), (rb, .inl (T 3, n, qa fb)), (h, .inr (1, biF a q u β)), (u, .inr (5, [.int (τ 0), .int (τ 1), .int (τ 2)]))] _ _ := Mz9
  refine lv_astore (lv' := [(4, .ref h), (0, .ref o), (1, .int (nI (i))), (2, .int (f)), (3, .int (nI (m9)))]) hx hb dX5_heat_5 hl9 (by decide) rfl (fun sl9 hl9 => ?_)
  refine lv_iload_n hx hb dX5_heat_7 rfl (lv_at hl9 3 rfl) ?_
  refine lv_sipush (v := 200) hx hb dX5_heat_8 (by decide) ?_
  refine lv_icmp_lt (tgt := 21) hx hb dX5_heat_11 (by decide) (fun h => absurd h (hf1)) (fun _ => ?_)
  refine lv_iload_n hx hb dX5_heat_14 rfl (lv_at hl9 3 rfl) ?_
  refine lv_sipush (v := 1300) hx hb dX5_heat_15 (by decide) ?_
  refine lv_icmp_le (tgt := 31) hx hb dX5_heat_18 (by decide) (fun _ => ?_) (fun h => absurd h (fun z => z hf2))
  refine lv_iload_n hx hb dX5_heat_31 rfl (lv_at hl9 4 rfl) ?_
  refine z_callSv (As := [.int (nI (m9))]) (rest := []) (wc := []) (wc' := []) Z Mz9 (ch_refuseMinutes l D T (m9) hm1 hm2) (va_cwS 1 hts gX5_heat_X5_refuseMinutes rfl rfl rfl (by decide +kernel) ⟨Nat.le_of_ble_eq_true rfl, Nat.le_of_ble_eq_true rfl⟩) [] rfl (by decide) (fun j hj => rfl) (Nat.le_refl _) rfl hl9.1 (Nat.le_of_ble_eq_true rfl) dX5_heat_32 ⟨Nat.le_of_ble_eq_true rfl, Nat.le_of_ble_eq_true rfl⟩ rfl (fun Hp9 lc9 Mz9 => ?_)
  have Mz9 : zM D A s.heap [(o, .inr (6, hsF ad lo)), (ad 7, .inr (0, [.int (kb), .ref rb, .int (nI (g))])), (rb, .inl (T 3, n, qa fb)), (h, .inr (1, biF a q u β)), (u, .inr (5, [.int (τ 0), .int (τ 1), .int (τ 2)]))] _ _ := Mz9
  refine lv_aload hx hb dX5_heat_35 (lv_at hl9 0 rfl) ?_
  refine z_getf Z Mz9 hin0 3 rfl rfl 9 (by decide) L116 rfl (v := .int (β 9)) rfl dX5_heat_37 ?_
  refine lv_aload hx hb dX5_heat_40 (lv_at hl9 0 rfl) ?_
  refine z_getf Z Mz9 hin0 3 rfl rfl 1 (by decide) L161 rfl (v := .ref u) rfl dX5_heat_42 ?_
  refine z_getf Z Mz9 hin4 4 rfl rfl 0 (by decide) L62 rfl (v := .int (τ 0)) rfl dX5_heat_45 ?_
  refine lv_icmp_lt (tgt := 61) hx hb dX5_heat_48 (by decide) (fun h => absurd h (hh)) (fun _ => ?_)
  exact z_throw Z hW Mz9 hA hE hl9.1 hfl zThr_S hX9 (is := 165) (text := "the billet may not be heated any more") (by decide +kernel) dX5_heat_51 dX5_heat_54 dX5_heat_55 dX5_heat_57 dX5_heat_60 (Nat.le_of_ble_eq_true rfl) (Nat.le_of_ble_eq_true rfl) ⟨Nat.le_of_ble_eq_true rfl, Nat.le_of_ble_eq_true rfl⟩ ⟨Nat.le_of_ble_eq_true rfl, Nat.le_of_ble_eq_true rfl⟩ rfl
set_option maxHeartbeats 4000000 in
set_option maxRecDepth 100000 in
theorem ch_cool (l : Launch) (D : va_G) (T : Nat → ClassId) (o : Nat) (ad : Nat → Nat) (lo : Int32) (kb : Int32) (rb n g : Nat) (fb : Nat → Option Nat) (h a q u : Nat) (β α κ τ : Nat → Int32) (i : Nat) (hi : i < g) (hg : g ≤ n) (hn : n ≤ 40000) (hf : fb i = some h) (m9 : Nat) (hm1 : 1 ≤ m9) (hm2 : m9 ≤ 200) : ZI l yX5_cool wsX5_cool (zrm 4 85) D T [(o, .inr (6, hsF ad lo)), (ad 7, .inr (0, [.int (kb), .ref rb, .int (nI (g))])), (rb, .inl (T 3, n, qa fb)), (h, .inr (1, biF a q u β)), (a, .inl (T 0, 8, .inl α)), (q, .inl (T 0, 8, .inl κ)), (u, .inr (5, [.int (τ 0), .int (τ 1), .int (τ 2)]))] [(o, .inr (6, hsF ad lo)), (ad 7, .inr (0, [.int (kb), .ref rb, .int (nI (g))])), (rb, .inl (T 3, n, qa fb)), (h, .inr (1, biF a q u (upd (upd β 7 (cSk (β 7) (m9))) 8 (cCo (β 7) (β 8) (m9))))), (a, .inl (T 0, 8, .inl α)), (q, .inl (T 0, 8, .inl κ)), (u, .inr (5, [.int (τ 0), .int (τ 1), .int (τ 2)]))] [.ref o, .int (nI (i)), .int (nI (m9))] (cCo (β 7) (β 8) m9) 0 0 := by
  refine z_inI (cc := cX5_cool) (maxL := 5) (rt := .int) (by decide +kernel) rfl (Nat.le_of_ble_eq_true rfl) ?_
  intro p e s m args below meth c sl9 A Q Z hnm Mz9 hl9 hret
  have Z : zC p s m args c cX5_cool 5 RX5 wsX5_cool D T A := Z
  have hx := Z.1.1
  have hb := Z.1.2.1
  have hts := Z.1.2.2.2.2
  have hin5 : ∀ w ∈ wsX50, w ∈ wsX5_cool := by decide +kernel
  have hinL : ∀ w ∈ wsJx4a65c0, w ∈ wsX5_cool := by decide +kernel
  have hin0 : ∀ w ∈ wsX00, w ∈ wsX5_cool := by decide +kernel
  have L110 := hts (.fieldLink RX5 110 "AnvilHouse$Billet" "core" "I") (by decide +kernel)
  have hl9 : lv_has sl9 5 [(0, .ref o), (1, .int (nI (i))), (2, .int (nI (m9)))] := hl9
  refine lv_aload_n hx hb dX5_cool_0 rfl (lv_at hl9 0 rfl) ?_
  refine lv_iload_n hx hb dX5_cool_1 rfl (lv_at hl9 1 rfl) ?_
  refine z_callVr (As := [.int (nI (i))]) (rest := []) (wc := [(o, .inr (6, hsF ad lo)), (ad 7, .inr (0, [.int (kb), .ref rb, .int (nI (g))])), (rb, .inl (T 3, n, qa fb)), (h, .inr (1, biF a q u β))]) Z Mz9 (ch_billetAt l D T o ad lo kb rb n g fb h (biF a q u β) i hi hg hn hf) (cwV 1 hts gX5_cool_X5_billetAt rfl rfl rfl (by decide +kernel) ⟨Nat.le_of_ble_eq_true rfl, Nat.le_of_ble_eq_true rfl⟩) [0, 1, 2, 3] rfl (by decide) (fun _ j hj => rfl) (fun _ => Nat.le_refl _) (va_recv Z.2.1 Mz9.1 (ci := 6) (q0 := 0) rfl rfl) rfl hl9.1 (Nat.le_of_ble_eq_true rfl) dX5_cool_2 ⟨Nat.le_of_ble_eq_true rfl, Nat.le_of_ble_eq_true rfl⟩ rfl (fun _ Hp9 lc9 Mz9 => ?_)
  have Mz9 : zM D A s.heap [(o, .inr (6, hsF ad lo)), (ad 7, .inr (0, [.int (kb), .ref rb, .int (nI (g))])), (rb, .inl (T 3, n, qa fb)), (h, .inr (1, biF a q u β)), (a, .inl (T 0, 8, .inl α)), (q, .inl (T 0, 8, .inl κ)), (u, .inr (5, [.int (τ 0), .int (τ 1), .int (τ 2)]))] _ _ := Mz9
  refine lv_astore_n (lv' := [(3, .ref h), (0, .ref o), (1, .int (nI (i))), (2, .int (nI (m9)))]) hx hb dX5_cool_5 rfl hl9 (by decide) rfl (fun sl9 hl9 => ?_)
  refine lv_iload_n hx hb dX5_cool_6 rfl (lv_at hl9 3 rfl) ?_
  refine z_callSv (As := [.int (nI (m9))]) (rest := []) (wc := []) (wc' := []) Z Mz9 (ch_refuseMinutes l D T (m9) hm1 hm2) (va_cwS 1 hts gX5_cool_X5_refuseMinutes rfl rfl rfl (by decide +kernel) ⟨Nat.le_of_ble_eq_true rfl, Nat.le_of_ble_eq_true rfl⟩) [] rfl (by decide) (fun j hj => rfl) (Nat.le_refl _) rfl hl9.1 (Nat.le_of_ble_eq_true rfl) dX5_cool_7 ⟨Nat.le_of_ble_eq_true rfl, Nat.le_of_ble_eq_true rfl⟩ rfl (fun Hp9 lc9 Mz9 => ?_)
  have Mz9 : zM D A s.heap [(o, .inr (6, hsF ad lo)), (ad 7, .inr (0, [.int (kb), .ref rb, .int (nI (g))])), (rb, .inl (T 3, n, qa fb)), (h, .inr (1, biF a q u β)), (a, .inl (T 0, 8, .inl α)), (q, .inl (T 0, 8, .inl κ)), (u, .inr (5, [.int (τ 0), .int (τ 1), .int (τ 2)]))] _ _ := Mz9
  refine lv_iconst (v := 1) hx hb dX5_cool_10 (by decide) ?_
  refine lv_istore (lv' := [(4, .int 1), (3, .ref h), (0, .ref o), (1, .int (nI (i))), (2, .int (nI (m9)))]) hx hb dX5_cool_11 hl9 (by decide) rfl (fun sl9 hl9 => ?_)
  have LP13_1 : ∀ (n13 k : Nat), k + n13 = m9 → ∀ (Hp9 : Heap) (lc9 : List Loc) (sl9 : Array Slot), zM D A s.heap ([(o, .inr (6, hsF ad lo)), (ad 7, .inr (0, [.int (kb), .ref rb, .int (nI (g))])), (rb, .inl (T 3, n, qa fb)), (h, .inr (1, biF a q u (upd (upd β 7 (cSk (β 7) (k))) 8 (cCo (β 7) (β 8) (k))))), (a, .inl (T 0, 8, .inl α)), (q, .inl (T 0, 8, .inl κ)), (u, .inr (5, [.int (τ 0), .int (τ 1), .int (τ 2)]))]) Hp9 lc9 → lv_has sl9 5 [(0, .ref o), (1, .int (nI (i))), (2, .int (nI (m9))), (3, .ref h), (4, .int (nI (k + 1)))] → W p l e (zrm 4 85) s m args below meth c Hp9 lc9 0 0 Q (F0 m 13 sl9 []) := by
    intro n13
    induction n13 with
    | zero =>
      intro k hk9 Hp9 lc9 sl9 Mz9 hl9
      obtain rfl : m9 = k := by omega
      refine lv_iload hx hb dX5_cool_13 (lv_at hl9 4 rfl) ?_
      refine lv_iload_n hx hb dX5_cool_15 rfl (lv_at hl9 2 rfl) ?_
      refine zn_icmp_gt (a := m9 + 1) (b := m9) (tgt := 29) (by omega) (by omega) hx hb dX5_cool_16 (by decide) (fun _ => ?_) (fun h => absurd h (by omega))
      refine lv_aload_n hx hb dX5_cool_29 rfl (lv_at hl9 3 rfl) ?_
      refine z_getf Z Mz9 hin0 3 rfl rfl 8 (by decide) L110 rfl (v := .int (cCo (β 7) (β 8) (m9))) rfl dX5_cool_30 ?_
      exact hret _ _ _ _ _ sl9 _ _ Mz9 (rfl) (rfl) (rfl) (Nat.le_of_ble_eq_true rfl) (Nat.le_of_ble_eq_true rfl) dX5_cool_33
    | succ n13 ih13 =>
      intro k hk9 Hp9 lc9 sl9 Mz9 hl9
      refine lv_iload hx hb dX5_cool_13 (lv_at hl9 4 rfl) ?_
      refine lv_iload_n hx hb dX5_cool_15 rfl (lv_at hl9 2 rfl) ?_
      refine zn_icmp_gt (a := k + 1) (b := m9) (tgt := 29) (by omega) (by omega) hx hb dX5_cool_16 (by decide) (fun h => absurd h (by omega)) (fun _ => ?_)
      refine lv_aload_n hx hb dX5_cool_19 rfl (lv_at hl9 3 rfl) ?_
      refine z_callVv (As := []) (rest := []) (wc := biW h a q u T (upd (upd β 7 (cSk (β 7) (k))) 8 (cCo (β 7) (β 8) (k))) α κ τ) (wc' := biW h a q u T (upd (upd β 7 (clS (cSk (β 7) (k)))) 8 (wrm (clS (cSk (β 7) (k))) (cCo (β 7) (β 8) (k)))) α κ τ) Z Mz9 (cb_standOutside l D T h a q u (upd (upd β 7 (cSk (β 7) (k))) 8 (cCo (β 7) (β 8) (k))) α κ τ) (cwV 0 hts gX5_cool_X0_standOutside rfl rfl rfl (by decide +kernel) ⟨Nat.le_of_ble_eq_true rfl, Nat.le_of_ble_eq_true rfl⟩) [3, 4, 5, 6] rfl (by decide) (fun j hj => rfl) (Nat.le_refl _) (va_recv Z.2.1 Mz9.1 (ci := 1) (q0 := 3) rfl rfl) rfl hl9.1 (Nat.le_of_ble_eq_true rfl) dX5_cool_20 ⟨Nat.le_of_ble_eq_true rfl, Nat.le_of_ble_eq_true rfl⟩ rfl (fun Hp9 lc9 Mz9 => ?_)
      have Mz9 : zM D A s.heap [(o, .inr (6, hsF ad lo)), (ad 7, .inr (0, [.int (kb), .ref rb, .int (nI (g))])), (rb, .inl (T 3, n, qa fb)), (h, .inr (1, biF a q u (upd (upd β 7 (clS (cSk (β 7) (k)))) 8 (wrm (clS (cSk (β 7) (k))) (cCo (β 7) (β 8) (k)))))), (a, .inl (T 0, 8, .inl α)), (q, .inl (T 0, 8, .inl κ)), (u, .inr (5, [.int (τ 0), .int (τ 1), .int (τ 2)]))] _ _ := Mz9
      refine lv_iinc (v := nI ((k + 1) + 1)) (lv' := [(4, .int (nI ((k + 1) + 1))), (0, .ref o), (1, .int (nI (i))), (2, .int (nI (m9))), (3, .ref h)]) hx hb dX5_cool_23 hl9 (k := 4) rfl (nI_add (k + 1) 1) (by decide) rfl (fun sl9 hl9 => ?_)
      refine lv_goto (tgt := 13) hx hb dX5_cool_26 (by decide) ?_
      exact ih13 (k + 1) (by omega)  _ _ _ (zM_w (by rfl) Mz9) (lv_sub hl9 [1, 2, 3, 4, 0] rfl)
  exact LP13_1 (m9 - 0) (0) (by omega)  _ _ _ (zM_w (by rfl) Mz9) (lv_w (show ([(0, .ref o), (1, .int (nI (i))), (2, .int (nI (m9))), (3, .ref h), (4, .int 1)] : List (Nat × Value)) = [(0, .ref o), (1, .int (nI (i))), (2, .int (nI (m9))), (3, .ref h), (4, .int (nI (0 + 1)))] from by rfl) (lv_sub hl9 [2, 3, 4, 1, 0] rfl))
set_option maxHeartbeats 4000000 in
set_option maxRecDepth 100000 in
theorem ch_cool_b (l : Launch) (hfl : l.stackTraces = false) (D : va_G) (T : Nat → ClassId) (ea mi : Nat) (sa : Nat → Nat) (o : Nat) (ad : Nat → Nat) (lo : Int32) (kb : Int32) (rb g : Nat) (v : Int32) (t : Int32) (hv9 : v < 0 ∨ nI g ≤ v) : ZB l yX5_cool wsX5_cool (zrmc 7 103 1 6) (zW ea mi sa) D T [(o, .inr (6, hsF ad lo)), (ad 7, .inr (0, [.int (kb), .ref rb, .int (nI (g))]))] [.ref o, .int (v), .int (t)] "java/lang/IndexOutOfBoundsException" := by
  refine z_inB (cc := cX5_cool) (maxL := 5) (ret := (some .int)) (by decide +kernel) rfl (Nat.le_of_ble_eq_true rfl) ?_
  intro p e s m args below meth c sl9 A hA Z hW Mz9 hl9 hE
  have Z : zC p s m args c cX5_cool 5 RX5 wsX5_cool D T A := Z
  have hx := Z.1.1
  have hb := Z.1.2.1
  have hts := Z.1.2.2.2.2
  have hin5 : ∀ w ∈ wsX50, w ∈ wsX5_cool := by decide +kernel
  have hinL : ∀ w ∈ wsJx4a65c0, w ∈ wsX5_cool := by decide +kernel
  have hin0 : ∀ w ∈ wsX00, w ∈ wsX5_cool := by decide +kernel
  have L110 := hts (.fieldLink RX5 110 "AnvilHouse$Billet" "core" "I") (by decide +kernel)
  have hl9 : lv_has sl9 5 [(0, .ref o), (1, .int (v)), (2, .int (t))] := hl9
  refine lv_aload_n hx hb dX5_cool_0 rfl (lv_at hl9 0 rfl) ?_
  refine lv_iload_n hx hb dX5_cool_1 rfl (lv_at hl9 1 rfl) ?_
  exact z_callB (As := [.int (v)]) (rest := []) (wc := [(o, .inr (6, hsF ad lo)), (ad 7, .inr (0, [.int (kb), .ref rb, .int (nI (g))]))]) (zW_k ea mi sa) hW Z Mz9 hA hE (ch_billetAt_bad l hfl D T ea mi sa o ad lo kb rb g v hv9) (cwV 1 hts gX5_cool_X5_billetAt rfl rfl rfl (by decide +kernel) ⟨Nat.le_of_ble_eq_true rfl, Nat.le_of_ble_eq_true rfl⟩) [0, 1] rfl (by decide) (va_recv Z.2.1 Mz9.1 (ci := 6) (q0 := 0) rfl rfl) rfl hl9.1 (Nat.le_of_ble_eq_true rfl) dX5_cool_2 ⟨Nat.le_of_ble_eq_true rfl, Nat.le_of_ble_eq_true rfl⟩ ⟨Nat.le_of_ble_eq_true rfl, Nat.le_of_ble_eq_true rfl⟩ rfl rfl
set_option maxHeartbeats 4000000 in
set_option maxRecDepth 100000 in
theorem ch_cool_m (l : Launch) (hfl : l.stackTraces = false) (D : va_G) (T : Nat → ClassId) (ea mi : Nat) (sa : Nat → Nat) (o : Nat) (ad : Nat → Nat) (lo : Int32) (kb : Int32) (rb n g : Nat) (fb : Nat → Option Nat) (h a q u : Nat) (β : Nat → Int32) (i : Nat) (hi : i < g) (hg : g ≤ n) (hn : n ≤ 40000) (hf : fb i = some h) (t : Int32) (hv9 : t < 1 ∨ 200 < t) : ZB l yX5_cool wsX5_cool (zrmc 7 102 1 6) (zW ea mi sa) D T [(o, .inr (6, hsF ad lo)), (ad 7, .inr (0, [.int (kb), .ref rb, .int (nI (g))])), (rb, .inl (T 3, n, qa fb)), (h, .inr (1, biF a q u β))] [.ref o, .int (nI (i)), .int (t)] "java/lang/IllegalArgumentException" := by
  refine z_inB (cc := cX5_cool) (maxL := 5) (ret := (some .int)) (by decide +kernel) rfl (Nat.le_of_ble_eq_true rfl) ?_
  intro p e s m args below meth c sl9 A hA Z hW Mz9 hl9 hE
  have Z : zC p s m args c cX5_cool 5 RX5 wsX5_cool D T A := Z
  have hx := Z.1.1
  have hb := Z.1.2.1
  have hts := Z.1.2.2.2.2
  have hin5 : ∀ w ∈ wsX50, w ∈ wsX5_cool := by decide +kernel
  have hinL : ∀ w ∈ wsJx4a65c0, w ∈ wsX5_cool := by decide +kernel
  have hin0 : ∀ w ∈ wsX00, w ∈ wsX5_cool := by decide +kernel
  have L110 := hts (.fieldLink RX5 110 "AnvilHouse$Billet" "core" "I") (by decide +kernel)
  have hl9 : lv_has sl9 5 [(0, .ref o), (1, .int (nI (i))), (2, .int (t))] := hl9
  refine lv_aload_n hx hb dX5_cool_0 rfl (lv_at hl9 0 rfl) ?_
  refine lv_iload_n hx hb dX5_cool_1 rfl (lv_at hl9 1 rfl) ?_
  refine z_callVr (As := [.int (nI (i))]) (rest := []) (wc := [(o, .inr (6, hsF ad lo)), (ad 7, .inr (0, [.int (kb), .ref rb, .int (nI (g))])), (rb, .inl (T 3, n, qa fb)), (h, .inr (1, biF a q u β))]) Z Mz9 (ch_billetAt l D T o ad lo kb rb n g fb h (biF a q u β) i hi hg hn hf) (cwV 1 hts gX5_cool_X5_billetAt rfl rfl rfl (by decide +kernel) ⟨Nat.le_of_ble_eq_true rfl, Nat.le_of_ble_eq_true rfl⟩) [0, 1, 2, 3] rfl (by decide) (fun _ j hj => rfl) (fun _ => Nat.le_refl _) (va_recv Z.2.1 Mz9.1 (ci := 6) (q0 := 0) rfl rfl) rfl hl9.1 (Nat.le_of_ble_eq_true rfl) dX5_cool_2 ⟨Nat.le_of_ble_eq_true rfl, Nat.le_of_ble_eq_true rfl⟩ rfl (fun _ Hp9 lc9 Mz9 => ?_)
  have Mz9 : zM D A s.heap [(o, .inr (6, hsF ad lo)), (ad 7, .inr (0, [.int (kb), .ref rb, .int (nI (g))])), (rb, .inl (T 3, n, qa fb)), (h, .inr (1, biF a q u β))] _ _ := Mz9
  refine lv_astore_n (lv' := [(3, .ref h), (0, .ref o), (1, .int (nI (i))), (2, .int (t))]) hx hb dX5_cool_5 rfl hl9 (by decide) rfl (fun sl9 hl9 => ?_)
  refine lv_iload_n hx hb dX5_cool_6 rfl (lv_at hl9 3 rfl) ?_
  exact z_callSB (As := [.int (t)]) (rest := []) (wc := []) (zW_k ea mi sa) hW Z Mz9 hA hE (ch_refuseMinutes_bad l hfl D T ea mi sa t hv9) (va_cwS 1 hts gX5_cool_X5_refuseMinutes rfl rfl rfl (by decide +kernel) ⟨Nat.le_of_ble_eq_true rfl, Nat.le_of_ble_eq_true rfl⟩) [] rfl (by decide) rfl hl9.1 (Nat.le_of_ble_eq_true rfl) dX5_cool_7 ⟨Nat.le_of_ble_eq_true rfl, Nat.le_of_ble_eq_true rfl⟩ ⟨Nat.le_of_ble_eq_true rfl, Nat.le_of_ble_eq_true rfl⟩ rfl rfl
set_option maxHeartbeats 4000000 in
set_option maxRecDepth 100000 in
theorem ch_cut (l : Launch) (D : va_G) (T : Nat → ClassId) (o : Nat) (ad : Nat → Nat) (lo : Int32) (kb : Int32) (rb n g : Nat) (fb : Nat → Option Nat) (h a q u : Nat) (β α κ τ : Nat → Int32) (i : Nat) (hi : i < g) (hg : g ≤ n) (hn : n ≤ 40000) (hf : fb i = some h) (j : Nat) (hj : j < 8) (mu : Int32) (h1 : ¬ mu < 1) (h2 : mu ≤ 200) : ZI l yX5_cut wsX5_cut (zrm 4 85) D T [(o, .inr (6, hsF ad lo)), (ad 7, .inr (0, [.int (kb), .ref rb, .int (nI (g))])), (rb, .inl (T 3, n, qa fb)), (h, .inr (1, biF a q u β)), (a, .inl (T 0, 8, .inl α)), (q, .inl (T 0, 8, .inl κ)), (u, .inr (5, [.int (τ 0), .int (τ 1), .int (τ 2)]))] [(o, .inr (6, hsF ad lo)), (ad 7, .inr (0, [.int (kb), .ref rb, .int (nI (g))])), (rb, .inl (T 3, n, qa fb)), (h, .inr (1, biF a q u (upd β 6 (β 6 + (imin mu (α j - 1)))))), (a, .inl (T 0, 8, .inl (upd α j (α j - (imin mu (α j - 1)))))), (q, .inl (T 0, 8, .inl κ)), (u, .inr (5, [.int (τ 0), .int (τ 1), .int (τ 2)]))] [.ref o, .int (nI (i)), .int (nI (j)), .int (mu)] (imin mu (α j - 1)) 0 0 := by
  refine z_inI (cc := cX5_cut) (maxL := 6) (rt := .int) (by decide +kernel) rfl (Nat.le_of_ble_eq_true rfl) ?_
  intro p e s m args below meth c sl9 A Q Z hnm Mz9 hl9 hret
  have Z : zC p s m args c cX5_cut 6 RX5 wsX5_cut D T A := Z
  have hx := Z.1.1
  have hb := Z.1.2.1
  have hts := Z.1.2.2.2.2
  have hin5 : ∀ w ∈ wsX50, w ∈ wsX5_cut := by decide +kernel
  have hinL : ∀ w ∈ wsJx4a65c0, w ∈ wsX5_cut := by decide +kernel
  have hin0 : ∀ w ∈ wsX00, w ∈ wsX5_cut := by decide +kernel
  have L141 := hts (.fieldLink RX5 141 "AnvilHouse$Billet" "areas" "[I") (by decide +kernel)
  have L153 := hts (.fieldLink RX5 153 "AnvilHouse$Billet" "cutOff" "I") (by decide +kernel)
  have hl9 : lv_has sl9 6 [(0, .ref o), (1, .int (nI (i))), (2, .int (nI (j))), (3, .int (mu))] := hl9
  refine lv_aload_n hx hb dX5_cut_0 rfl (lv_at hl9 0 rfl) ?_
  refine lv_iload_n hx hb dX5_cut_1 rfl (lv_at hl9 1 rfl) ?_
  refine z_callVr (As := [.int (nI (i))]) (rest := []) (wc := [(o, .inr (6, hsF ad lo)), (ad 7, .inr (0, [.int (kb), .ref rb, .int (nI (g))])), (rb, .inl (T 3, n, qa fb)), (h, .inr (1, biF a q u β))]) Z Mz9 (ch_billetAt l D T o ad lo kb rb n g fb h (biF a q u β) i hi hg hn hf) (cwV 1 hts gX5_cut_X5_billetAt rfl rfl rfl (by decide +kernel) ⟨Nat.le_of_ble_eq_true rfl, Nat.le_of_ble_eq_true rfl⟩) [0, 1, 2, 3] rfl (by decide) (fun _ j hj => rfl) (fun _ => Nat.le_refl _) (va_recv Z.2.1 Mz9.1 (ci := 6) (q0 := 0) rfl rfl) rfl hl9.1 (Nat.le_of_ble_eq_true rfl) dX5_cut_2 ⟨Nat.le_of_ble_eq_true rfl, Nat.le_of_ble_eq_true rfl⟩ rfl (fun _ Hp9 lc9 Mz9 => ?_)
  have Mz9 : zM D A s.heap [(o, .inr (6, hsF ad lo)), (ad 7, .inr (0, [.int (kb), .ref rb, .int (nI (g))])), (rb, .inl (T 3, n, qa fb)), (h, .inr (1, biF a q u β)), (a, .inl (T 0, 8, .inl α)), (q, .inl (T 0, 8, .inl κ)), (u, .inr (5, [.int (τ 0), .int (τ 1), .int (τ 2)]))] _ _ := Mz9
  refine lv_astore (lv' := [(4, .ref h), (0, .ref o), (1, .int (nI (i))), (2, .int (nI (j))), (3, .int (mu))]) hx hb dX5_cut_5 hl9 (by decide) rfl (fun sl9 hl9 => ?_)
  refine lv_iload_n hx hb dX5_cut_7 rfl (lv_at hl9 3 rfl) ?_
  refine z_callSv (As := [.int (nI (j))]) (rest := []) (wc := []) (wc' := []) Z Mz9 (ch_refuseNoSection l D T (j) hj) (va_cwS 1 hts gX5_cut_X5_refuseNoSection rfl rfl rfl (by decide +kernel) ⟨Nat.le_of_ble_eq_true rfl, Nat.le_of_ble_eq_true rfl⟩) [] rfl (by decide) (fun j hj => rfl) (Nat.le_refl _) rfl hl9.1 (Nat.le_of_ble_eq_true rfl) dX5_cut_8 ⟨Nat.le_of_ble_eq_true rfl, Nat.le_of_ble_eq_true rfl⟩ rfl (fun Hp9 lc9 Mz9 => ?_)
  have Mz9 : zM D A s.heap [(o, .inr (6, hsF ad lo)), (ad 7, .inr (0, [.int (kb), .ref rb, .int (nI (g))])), (rb, .inl (T 3, n, qa fb)), (h, .inr (1, biF a q u β)), (a, .inl (T 0, 8, .inl α)), (q, .inl (T 0, 8, .inl κ)), (u, .inr (5, [.int (τ 0), .int (τ 1), .int (τ 2)]))] _ _ := Mz9
  refine lv_iload_n hx hb dX5_cut_11 rfl (lv_at hl9 4 rfl) ?_
  refine lv_iconst (v := 1) hx hb dX5_cut_12 (by decide) ?_
  refine lv_icmp_lt (tgt := 23) hx hb dX5_cut_13 (by decide) (fun h => absurd h (h1)) (fun _ => ?_)
  refine lv_iload_n hx hb dX5_cut_16 rfl (lv_at hl9 4 rfl) ?_
  refine lv_sipush (v := 200) hx hb dX5_cut_17 (by decide) ?_
  refine lv_icmp_le (tgt := 33) hx hb dX5_cut_20 (by decide) (fun _ => ?_) (fun h => absurd h (fun z => z h2))
  refine lv_iload_n hx hb dX5_cut_33 rfl (lv_at hl9 4 rfl) ?_
  refine lv_aload hx hb dX5_cut_34 (lv_at hl9 0 rfl) ?_
  refine z_getf Z Mz9 hin0 3 rfl rfl 2 (by decide) L141 rfl (v := .ref a) rfl dX5_cut_36 ?_
  refine lv_iload_n hx hb dX5_cut_39 rfl (lv_at hl9 3 rfl) ?_
  refine z_iald Z Mz9 4 (h0 := a) (n := 8) (f := α) rfl (j := j) (by omega) (by decide) dX5_cut_40 ?_
  refine lv_iconst (v := 1) hx hb dX5_cut_41 (by decide) ?_
  refine lv_isub hx hb dX5_cut_42 ?_
  refine va_mmin hx hb (Z.1.2.2.1.trans hl9.1.symm) Z.1.2.2.2.1 (hts (.methodLink RX5 190 Lib.Math.min.name) (by decide +kernel)) (hts (.static Lib.Math.min.name) (by decide +kernel)) (hts (.initialized "java/lang/Math") (by decide +kernel)) (hts (.code Lib.Math.min.name Lib.Math.min.code 2 (some .int)) (by decide +kernel)) (Nat.le_of_ble_eq_true rfl) (Nat.le_of_ble_eq_true rfl) (Nat.zero_le _) (Nat.zero_le _) dX5_cut_43 ?_
  refine zn_top (y := imin mu ((α j) - 1)) (min_imin _ _) ?_
  refine lv_istore (lv' := [(5, .int (imin mu ((α j) - 1))), (4, .ref h), (0, .ref o), (1, .int (nI (i))), (2, .int (nI (j))), (3, .int (mu))]) hx hb dX5_cut_46 hl9 (by decide) rfl (fun sl9 hl9 => ?_)
  refine lv_aload hx hb dX5_cut_48 (lv_at hl9 1 rfl) ?_
  refine z_getf Z Mz9 hin0 3 rfl rfl 2 (by decide) L141 rfl (v := .ref a) rfl dX5_cut_50 ?_
  refine lv_iload_n hx hb dX5_cut_53 rfl (lv_at hl9 4 rfl) ?_
  refine lv_dup2_11 hx hb dX5_cut_54 rfl rfl ?_
  refine z_iald Z Mz9 4 (h0 := a) (n := 8) (f := α) rfl (j := j) (by omega) (by decide) dX5_cut_55 ?_
  refine lv_iload hx hb dX5_cut_56 (lv_at hl9 0 rfl) ?_
  refine lv_isub hx hb dX5_cut_58 ?_
  refine z_iast Z Mz9 4 (h0 := a) (n := 8) (f := α) rfl (j := j) (x := (α j) - (imin mu ((α j) - 1))) (by omega) (by decide) (ws' := [(o, .inr (6, hsF ad lo)), (ad 7, .inr (0, [.int (kb), .ref rb, .int (nI (g))])), (rb, .inl (T 3, n, qa fb)), (h, .inr (1, biF a q u β)), (a, .inl (T 0, 8, .inl (upd α j ((α j) - (imin mu ((α j) - 1)))))), (q, .inl (T 0, 8, .inl κ)), (u, .inr (5, [.int (τ 0), .int (τ 1), .int (τ 2)]))]) rfl dX5_cut_59 (fun Hp9 lc9 Mz9 => ?_)
  refine lv_aload hx hb dX5_cut_60 (lv_at hl9 1 rfl) ?_
  refine lv_dup hx hb dX5_cut_62 rfl ?_
  refine z_getf Z Mz9 hin0 3 rfl rfl 6 (by decide) L153 rfl (v := .int (β 6)) rfl dX5_cut_63 ?_
  refine lv_iload hx hb dX5_cut_66 (lv_at hl9 0 rfl) ?_
  refine lv_iadd hx hb dX5_cut_68 ?_
  refine z_putf Z Mz9 hin0 tyX0 tyX0_ok nmX0 3 rfl rfl 6 (by decide) L153 rfl rfl (ty := .int) rfl rfl rfl (Nat.le_of_ble_eq_true rfl) (ws' := [(o, .inr (6, hsF ad lo)), (ad 7, .inr (0, [.int (kb), .ref rb, .int (nI (g))])), (rb, .inl (T 3, n, qa fb)), (h, .inr (1, biF a q u (upd β 6 ((β 6) + (imin mu ((α j) - 1)))))), (a, .inl (T 0, 8, .inl (upd α j ((α j) - (imin mu ((α j) - 1)))))), (q, .inl (T 0, 8, .inl κ)), (u, .inr (5, [.int (τ 0), .int (τ 1), .int (τ 2)]))]) rfl dX5_cut_69 (fun Hp9 lc9 Mz9 => ?_)
  refine lv_iload hx hb dX5_cut_72 (lv_at hl9 0 rfl) ?_
  exact hret _ _ _ _ _ sl9 _ _ Mz9 (rfl) (rfl) (rfl) (Nat.le_of_ble_eq_true rfl) (Nat.le_of_ble_eq_true rfl) dX5_cut_74
set_option maxHeartbeats 4000000 in
set_option maxRecDepth 100000 in
theorem ch_cut_b (l : Launch) (hfl : l.stackTraces = false) (D : va_G) (T : Nat → ClassId) (ea mi : Nat) (sa : Nat → Nat) (o : Nat) (ad : Nat → Nat) (lo : Int32) (kb : Int32) (rb g : Nat) (v : Int32) (t mu : Int32) (hv9 : v < 0 ∨ nI g ≤ v) : ZB l yX5_cut wsX5_cut (zrmc 7 103 1 6) (zW ea mi sa) D T [(o, .inr (6, hsF ad lo)), (ad 7, .inr (0, [.int (kb), .ref rb, .int (nI (g))]))] [.ref o, .int (v), .int (t), .int (mu)] "java/lang/IndexOutOfBoundsException" := by
  refine z_inB (cc := cX5_cut) (maxL := 6) (ret := (some .int)) (by decide +kernel) rfl (Nat.le_of_ble_eq_true rfl) ?_
  intro p e s m args below meth c sl9 A hA Z hW Mz9 hl9 hE
  have Z : zC p s m args c cX5_cut 6 RX5 wsX5_cut D T A := Z
  have hx := Z.1.1
  have hb := Z.1.2.1
  have hts := Z.1.2.2.2.2
  have hin5 : ∀ w ∈ wsX50, w ∈ wsX5_cut := by decide +kernel
  have hinL : ∀ w ∈ wsJx4a65c0, w ∈ wsX5_cut := by decide +kernel
  have hin0 : ∀ w ∈ wsX00, w ∈ wsX5_cut := by decide +kernel
  have L141 := hts (.fieldLink RX5 141 "AnvilHouse$Billet" "areas" "[I") (by decide +kernel)
  have L153 := hts (.fieldLink RX5 153 "AnvilHouse$Billet" "cutOff" "I") (by decide +kernel)
  have hl9 : lv_has sl9 6 [(0, .ref o), (1, .int (v)), (2, .int (t)), (3, .int (mu))] := hl9
  refine lv_aload_n hx hb dX5_cut_0 rfl (lv_at hl9 0 rfl) ?_
  refine lv_iload_n hx hb dX5_cut_1 rfl (lv_at hl9 1 rfl) ?_
  exact z_callB (As := [.int (v)]) (rest := []) (wc := [(o, .inr (6, hsF ad lo)), (ad 7, .inr (0, [.int (kb), .ref rb, .int (nI (g))]))]) (zW_k ea mi sa) hW Z Mz9 hA hE (ch_billetAt_bad l hfl D T ea mi sa o ad lo kb rb g v hv9) (cwV 1 hts gX5_cut_X5_billetAt rfl rfl rfl (by decide +kernel) ⟨Nat.le_of_ble_eq_true rfl, Nat.le_of_ble_eq_true rfl⟩) [0, 1] rfl (by decide) (va_recv Z.2.1 Mz9.1 (ci := 6) (q0 := 0) rfl rfl) rfl hl9.1 (Nat.le_of_ble_eq_true rfl) dX5_cut_2 ⟨Nat.le_of_ble_eq_true rfl, Nat.le_of_ble_eq_true rfl⟩ ⟨Nat.le_of_ble_eq_true rfl, Nat.le_of_ble_eq_true rfl⟩ rfl rfl
set_option maxHeartbeats 4000000 in
set_option maxRecDepth 100000 in
theorem ch_cut_s (l : Launch) (hfl : l.stackTraces = false) (D : va_G) (T : Nat → ClassId) (ea mi : Nat) (sa : Nat → Nat) (o : Nat) (ad : Nat → Nat) (lo : Int32) (kb : Int32) (rb n g : Nat) (fb : Nat → Option Nat) (h a q u : Nat) (β : Nat → Int32) (i : Nat) (hi : i < g) (hg : g ≤ n) (hn : n ≤ 40000) (hf : fb i = some h) (v : Int32) (mu : Int32) (hv9 : v < 0 ∨ 8 ≤ v) : ZB l yX5_cut wsX5_cut (zrmc 7 102 1 6) (zW ea mi sa) D T [(o, .inr (6, hsF ad lo)), (ad 7, .inr (0, [.int (kb), .ref rb, .int (nI (g))])), (rb, .inl (T 3, n, qa fb)), (h, .inr (1, biF a q u β))] [.ref o, .int (nI (i)), .int (v), .int (mu)] "java/lang/IndexOutOfBoundsException" := by
  refine z_inB (cc := cX5_cut) (maxL := 6) (ret := (some .int)) (by decide +kernel) rfl (Nat.le_of_ble_eq_true rfl) ?_
  intro p e s m args below meth c sl9 A hA Z hW Mz9 hl9 hE
  have Z : zC p s m args c cX5_cut 6 RX5 wsX5_cut D T A := Z
  have hx := Z.1.1
  have hb := Z.1.2.1
  have hts := Z.1.2.2.2.2
  have hin5 : ∀ w ∈ wsX50, w ∈ wsX5_cut := by decide +kernel
  have hinL : ∀ w ∈ wsJx4a65c0, w ∈ wsX5_cut := by decide +kernel
  have hin0 : ∀ w ∈ wsX00, w ∈ wsX5_cut := by decide +kernel
  have L141 := hts (.fieldLink RX5 141 "AnvilHouse$Billet" "areas" "[I") (by decide +kernel)
  have L153 := hts (.fieldLink RX5 153 "AnvilHouse$Billet" "cutOff" "I") (by decide +kernel)
  have hl9 : lv_has sl9 6 [(0, .ref o), (1, .int (nI (i))), (2, .int (v)), (3, .int (mu))] := hl9
  refine lv_aload_n hx hb dX5_cut_0 rfl (lv_at hl9 0 rfl) ?_
  refine lv_iload_n hx hb dX5_cut_1 rfl (lv_at hl9 1 rfl) ?_
  refine z_callVr (As := [.int (nI (i))]) (rest := []) (wc := [(o, .inr (6, hsF ad lo)), (ad 7, .inr (0, [.int (kb), .ref rb, .int (nI (g))])), (rb, .inl (T 3, n, qa fb)), (h, .inr (1, biF a q u β))]) Z Mz9 (ch_billetAt l D T o ad lo kb rb n g fb h (biF a q u β) i hi hg hn hf) (cwV 1 hts gX5_cut_X5_billetAt rfl rfl rfl (by decide +kernel) ⟨Nat.le_of_ble_eq_true rfl, Nat.le_of_ble_eq_true rfl⟩) [0, 1, 2, 3] rfl (by decide) (fun _ j hj => rfl) (fun _ => Nat.le_refl _) (va_recv Z.2.1 Mz9.1 (ci := 6) (q0 := 0) rfl rfl) rfl hl9.1 (Nat.le_of_ble_eq_true rfl) dX5_cut_2 ⟨Nat.le_of_ble_eq_true rfl, Nat.le_of_ble_eq_true rfl⟩ rfl (fun _ Hp9 lc9 Mz9 => ?_)
  have Mz9 : zM D A s.heap [(o, .inr (6, hsF ad lo)), (ad 7, .inr (0, [.int (kb), .ref rb, .int (nI (g))])), (rb, .inl (T 3, n, qa fb)), (h, .inr (1, biF a q u β))] _ _ := Mz9
  refine lv_astore (lv' := [(4, .ref h), (0, .ref o), (1, .int (nI (i))), (2, .int (v)), (3, .int (mu))]) hx hb dX5_cut_5 hl9 (by decide) rfl (fun sl9 hl9 => ?_)
  refine lv_iload_n hx hb dX5_cut_7 rfl (lv_at hl9 3 rfl) ?_
  exact z_callSB (As := [.int (v)]) (rest := []) (wc := []) (zW_k ea mi sa) hW Z Mz9 hA hE (ch_refuseNoSection_bad l hfl D T ea mi sa v hv9) (va_cwS 1 hts gX5_cut_X5_refuseNoSection rfl rfl rfl (by decide +kernel) ⟨Nat.le_of_ble_eq_true rfl, Nat.le_of_ble_eq_true rfl⟩) [] rfl (by decide) rfl hl9.1 (Nat.le_of_ble_eq_true rfl) dX5_cut_8 ⟨Nat.le_of_ble_eq_true rfl, Nat.le_of_ble_eq_true rfl⟩ ⟨Nat.le_of_ble_eq_true rfl, Nat.le_of_ble_eq_true rfl⟩ rfl rfl
set_option maxHeartbeats 4000000 in
set_option maxRecDepth 100000 in
theorem ch_cut_a (l : Launch) (hfl : l.stackTraces = false) (D : va_G) (T : Nat → ClassId) (ea mi : Nat) (sa : Nat → Nat) (o : Nat) (ad : Nat → Nat) (lo : Int32) (kb : Int32) (rb n g : Nat) (fb : Nat → Option Nat) (h a q u : Nat) (β : Nat → Int32) (i : Nat) (hi : i < g) (hg : g ≤ n) (hn : n ≤ 40000) (hf : fb i = some h) (j : Nat) (hj : j < 8) (mu : Int32) (hv9 : mu < 1 ∨ 200 < mu) : ZB l yX5_cut wsX5_cut (zrmc 6 85 1 6) (zW ea mi sa) D T [(o, .inr (6, hsF ad lo)), (ad 7, .inr (0, [.int (kb), .ref rb, .int (nI (g))])), (rb, .inl (T 3, n, qa fb)), (h, .inr (1, biF a q u β))] [.ref o, .int (nI (i)), .int (nI (j)), .int (mu)] "java/lang/IllegalArgumentException" := by
  refine z_inB (cc := cX5_cut) (maxL := 6) (ret := (some .int)) (by decide +kernel) rfl (Nat.le_of_ble_eq_true rfl) ?_
  intro p e s m args below meth c sl9 A hA Z hW Mz9 hl9 hE
  have Z : zC p s m args c cX5_cut 6 RX5 wsX5_cut D T A := Z
  have hx := Z.1.1
  have hb := Z.1.2.1
  have hts := Z.1.2.2.2.2
  have hin5 : ∀ w ∈ wsX50, w ∈ wsX5_cut := by decide +kernel
  have hinL : ∀ w ∈ wsJx4a65c0, w ∈ wsX5_cut := by decide +kernel
  have hin0 : ∀ w ∈ wsX00, w ∈ wsX5_cut := by decide +kernel
  have hX9 : ∀ w ∈ Cond.classLink RX5 51 "java/lang/IllegalArgumentException" :: Cond.initialized "java/lang/IllegalArgumentException" :: (vx_atS RX5 55 "java/lang/IllegalArgumentException" zNm).filter goodWord, w ∈ wsX5_cut := by decide +kernel
  have L141 := hts (.fieldLink RX5 141 "AnvilHouse$Billet" "areas" "[I") (by decide +kernel)
  have L153 := hts (.fieldLink RX5 153 "AnvilHouse$Billet" "cutOff" "I") (by decide +kernel)
  have hl9 : lv_has sl9 6 [(0, .ref o), (1, .int (nI (i))), (2, .int (nI (j))), (3, .int (mu))] := hl9
  refine lv_aload_n hx hb dX5_cut_0 rfl (lv_at hl9 0 rfl) ?_
  refine lv_iload_n hx hb dX5_cut_1 rfl (lv_at hl9 1 rfl) ?_
  refine z_callVr (As := [.int (nI (i))]) (rest := []) (wc := [(o, .inr (6, hsF ad lo)), (ad 7, .inr (0, [.int (kb), .ref rb, .int (nI (g))])), (rb, .inl (T 3, n, qa fb)), (h, .inr (1, biF a q u β))]) Z Mz9 (ch_billetAt l D T o ad lo kb rb n g fb h (biF a q u β) i hi hg hn hf) (cwV 1 hts gX5_cut_X5_billetAt rfl rfl rfl (by decide +kernel) ⟨Nat.le_of_ble_eq_true rfl, Nat.le_of_ble_eq_true rfl⟩) [0, 1, 2, 3] rfl (by decide) (fun _ j hj => rfl) (fun _ => Nat.le_refl _) (va_recv Z.2.1 Mz9.1 (ci := 6) (q0 := 0) rfl rfl) rfl hl9.1 (Nat.le_of_ble_eq_true rfl) dX5_cut_2 ⟨Nat.le_of_ble_eq_true rfl, Nat.le_of_ble_eq_true rfl⟩ rfl (fun _ Hp9 lc9 Mz9 => ?_)
  have Mz9 : zM D A s.heap [(o, .inr (6, hsF ad lo)), (ad 7, .inr (0, [.int (kb), .ref rb, .int (nI (g))])), (rb, .inl (T 3, n, qa fb)), (h, .inr (1, biF a q u β))] _ _ := Mz9
  refine lv_astore (lv' := [(4, .ref h), (0, .ref o), (1, .int (nI (i))), (2, .int (nI (j))), (3, .int (mu))]) hx hb dX5_cut_5 hl9 (by decide) rfl (fun sl9 hl9 => ?_)
  refine lv_iload_n hx hb dX5_cut_7 rfl (lv_at hl9 3 rfl) ?_
  refine z_callSv (As := [.int (nI (j))]) (rest := []) (wc := []) (wc' := []) Z Mz9 (ch_refuseNoSection l D T (j) hj) (va_cwS 1 hts gX5_cut_X5_refuseNoSection rfl rfl rfl (by decide +kernel) ⟨Nat.le_of_ble_eq_true rfl, Nat.le_of_ble_eq_true rfl⟩) [] rfl (by decide) (fun j hj => rfl) (Nat.le_refl _) rfl hl9.1 (Nat.le_of_ble_eq_true rfl) dX5_cut_8 ⟨Nat.le_of_ble_eq_true rfl, Nat.le_of_ble_eq_true rfl⟩ rfl (fun Hp9 lc9 Mz9 => ?_)
  have Mz9 : zM D A s.heap [(o, .inr (6, hsF ad lo)), (ad 7, .inr (0, [.int (kb), .ref rb, .int (nI (g))])), (rb, .inl (T 3, n, qa fb)), (h, .inr (1, biF a q u β))] _ _ := Mz9
  refine lv_iload_n hx hb dX5_cut_11 rfl (lv_at hl9 4 rfl) ?_
  refine lv_iconst (v := 1) hx hb dX5_cut_12 (by decide) ?_
  refine lv_icmp_lt (tgt := 23) hx hb dX5_cut_13 (by decide) (fun c_1 => ?_) (fun c_1 => ?_)
  ·
    exact z_throw Z hW Mz9 hA hE hl9.1 hfl zThr_A hX9 (is := 188) (text := "1 to 200 can be cut") (by decide +kernel) dX5_cut_23 dX5_cut_26 dX5_cut_27 dX5_cut_29 dX5_cut_32 (Nat.le_of_ble_eq_true rfl) (Nat.le_of_ble_eq_true rfl) ⟨Nat.le_of_ble_eq_true rfl, Nat.le_of_ble_eq_true rfl⟩ ⟨Nat.le_of_ble_eq_true rfl, Nat.le_of_ble_eq_true rfl⟩ rfl
  ·
    refine lv_iload_n hx hb dX5_cut_16 rfl (lv_at hl9 4 rfl) ?_
    refine lv_sipush (v := 200) hx hb dX5_cut_17 (by decide) ?_
    refine lv_icmp_le (tgt := 33) hx hb dX5_cut_20 (by decide) (fun c_2 => ?_) (fun c_2 => ?_)
    ·
      exact False.elim (by rcases hv9 with h | h <;> first | exact absurd h c_1 | exact absurd c_1 h | exact absurd h (Int32.not_lt.mpr c_1) | exact absurd (Int32.not_le.mp c_1) (Int32.not_lt.mpr h) | exact absurd c_1 (Int32.not_lt.mpr h) | exact absurd h c_2 | exact absurd c_2 h | exact absurd h (Int32.not_lt.mpr c_2) | exact absurd (Int32.not_le.mp c_2) (Int32.not_lt.mpr h) | exact absurd c_2 (Int32.not_lt.mpr h))
    ·
      exact z_throw Z hW Mz9 hA hE hl9.1 hfl zThr_A hX9 (is := 188) (text := "1 to 200 can be cut") (by decide +kernel) dX5_cut_23 dX5_cut_26 dX5_cut_27 dX5_cut_29 dX5_cut_32 (Nat.le_of_ble_eq_true rfl) (Nat.le_of_ble_eq_true rfl) ⟨Nat.le_of_ble_eq_true rfl, Nat.le_of_ble_eq_true rfl⟩ ⟨Nat.le_of_ble_eq_true rfl, Nat.le_of_ble_eq_true rfl⟩ rfl
set_option maxHeartbeats 4000000 in
set_option maxRecDepth 100000 in
theorem ch_temper (l : Launch) (D : va_G) (T : Nat → ClassId) (o : Nat) (ad : Nat → Nat) (lo : Int32) (kb : Int32) (rb n g : Nat) (fb : Nat → Option Nat) (h a q u : Nat) (β α κ τ : Nat → Int32) (i : Nat) (hi : i < g) (hg : g ≤ n) (hn : n ≤ 40000) (hf : fb i = some h) (tm : Nat → Int32) (w9 : Int32) (h1 : ¬ w9 < 100) (h2 : w9 ≤ 700) (hld : ¬ isl (β 14) (nI 20) = 0) : ZI l yX5_temper wsX5_temper (zrm 4 85) D T [(o, .inr (6, hsF ad lo)), (ad 7, .inr (0, [.int (kb), .ref rb, .int (nI (g))])), (rb, .inl (T 3, n, qa fb)), (h, .inr (1, biF a q u β)), (a, .inl (T 0, 8, .inl α)), (q, .inl (T 0, 8, .inl κ)), (u, .inr (5, [.int (τ 0), .int (τ 1), .int (τ 2)])), (ad 9, .inl (T 0, 20, .inl tm))] [(o, .inr (6, hsF ad lo)), (ad 7, .inr (0, [.int (kb), .ref rb, .int (nI (g))])), (rb, .inl (T 3, n, qa fb)), (h, .inr (1, biF a q u (upd β 16 (if β 16 < w9 then w9 else β 16)))), (a, .inl (T 0, 8, .inl α)), (q, .inl (T 0, 8, .inl κ)), (u, .inr (5, [.int (τ 0), .int (τ 1), .int (τ 2)])), (ad 9, .inl (T 0, 20, .inl tm))] [.ref o, .int (nI (i)), .int (w9)] (LH (fun j => if β 14 = -1 then 0 else hrc (κ j) (if β 16 < w9 then w9 else β 16))) 0 0 := by
  refine z_inI (cc := cX5_temper) (maxL := 4) (rt := .int) (by decide +kernel) rfl (Nat.le_of_ble_eq_true rfl) ?_
  intro p e s m args below meth c sl9 A Q Z hnm Mz9 hl9 hret
  have Z : zC p s m args c cX5_temper 4 RX5 wsX5_temper D T A := Z
  have hx := Z.1.1
  have hb := Z.1.2.1
  have hts := Z.1.2.2.2.2
  have hin5 : ∀ w ∈ wsX50, w ∈ wsX5_temper := by decide +kernel
  have hinL : ∀ w ∈ wsJx4a65c0, w ∈ wsX5_temper := by decide +kernel
  have hin0 : ∀ w ∈ wsX00, w ∈ wsX5_temper := by decide +kernel
  have L132 := hts (.fieldLink RX5 132 "AnvilHouse$Billet" "load" "I") (by decide +kernel)
  have L251 := hts (.fieldLink RX5 251 "AnvilHouse$Billet" "tempered" "I") (by decide +kernel)
  have hl9 : lv_has sl9 4 [(0, .ref o), (1, .int (nI (i))), (2, .int (w9))] := hl9
  refine lv_aload_n hx hb dX5_temper_0 rfl (lv_at hl9 0 rfl) ?_
  refine lv_iload_n hx hb dX5_temper_1 rfl (lv_at hl9 1 rfl) ?_
  refine z_callVr (As := [.int (nI (i))]) (rest := []) (wc := [(o, .inr (6, hsF ad lo)), (ad 7, .inr (0, [.int (kb), .ref rb, .int (nI (g))])), (rb, .inl (T 3, n, qa fb)), (h, .inr (1, biF a q u β))]) Z Mz9 (ch_billetAt l D T o ad lo kb rb n g fb h (biF a q u β) i hi hg hn hf) (cwV 1 hts gX5_temper_X5_billetAt rfl rfl rfl (by decide +kernel) ⟨Nat.le_of_ble_eq_true rfl, Nat.le_of_ble_eq_true rfl⟩) [0, 1, 2, 3] rfl (by decide) (fun _ j hj => rfl) (fun _ => Nat.le_refl _) (va_recv Z.2.1 Mz9.1 (ci := 6) (q0 := 0) rfl rfl) rfl hl9.1 (Nat.le_of_ble_eq_true rfl) dX5_temper_2 ⟨Nat.le_of_ble_eq_true rfl, Nat.le_of_ble_eq_true rfl⟩ rfl (fun _ Hp9 lc9 Mz9 => ?_)
  have Mz9 : zM D A s.heap [(o, .inr (6, hsF ad lo)), (ad 7, .inr (0, [.int (kb), .ref rb, .int (nI (g))])), (rb, .inl (T 3, n, qa fb)), (h, .inr (1, biF a q u β)), (a, .inl (T 0, 8, .inl α)), (q, .inl (T 0, 8, .inl κ)), (u, .inr (5, [.int (τ 0), .int (τ 1), .int (τ 2)])), (ad 9, .inl (T 0, 20, .inl tm))] _ _ := Mz9
  refine lv_astore_n (lv' := [(3, .ref h), (0, .ref o), (1, .int (nI (i))), (2, .int (w9))]) hx hb dX5_temper_5 rfl hl9 (by decide) rfl (fun sl9 hl9 => ?_)
  refine lv_iload_n hx hb dX5_temper_6 rfl (lv_at hl9 3 rfl) ?_
  refine lv_bipush (v := 100) hx hb dX5_temper_7 (by decide) ?_
  refine lv_icmp_lt (tgt := 19) hx hb dX5_temper_9 (by decide) (fun h => absurd h (h1)) (fun _ => ?_)
  refine lv_iload_n hx hb dX5_temper_12 rfl (lv_at hl9 3 rfl) ?_
  refine lv_sipush (v := 700) hx hb dX5_temper_13 (by decide) ?_
  refine lv_icmp_le (tgt := 29) hx hb dX5_temper_16 (by decide) (fun _ => ?_) (fun h => absurd h (fun z => z h2))
  refine lv_aload_n hx hb dX5_temper_29 rfl (lv_at hl9 1 rfl) ?_
  refine lv_aload_n hx hb dX5_temper_30 rfl (lv_at hl9 0 rfl) ?_
  refine z_getf Z Mz9 hin0 3 rfl rfl 14 (by decide) L132 rfl (v := .int (β 14)) rfl dX5_temper_31 ?_
  refine z_callVi (As := [.int (β 14)]) (rest := []) (rv := isl (β 14) (nI 20)) (wc := [(o, .inr (6, hsF ad lo)), (ad 9, .inl (T 0, 20, .inl tm))]) (wc' := [(o, .inr (6, hsF ad lo)), (ad 9, .inl (T 0, 20, .inl tm))]) Z Mz9 (ch_isLoad l D T o ad lo tm (β 14)) (cwV 1 hts gX5_temper_X5_isLoad rfl rfl rfl (by decide +kernel) ⟨Nat.le_of_ble_eq_true rfl, Nat.le_of_ble_eq_true rfl⟩) [0, 7] rfl (by decide) (fun j hj => rfl) (Nat.le_refl _) (va_recv Z.2.1 Mz9.1 (ci := 6) (q0 := 0) rfl rfl) rfl hl9.1 (Nat.le_of_ble_eq_true rfl) dX5_temper_34 ⟨Nat.le_of_ble_eq_true rfl, Nat.le_of_ble_eq_true rfl⟩ rfl (fun Hp9 lc9 Mz9 => ?_)
  have Mz9 : zM D A s.heap [(o, .inr (6, hsF ad lo)), (ad 7, .inr (0, [.int (kb), .ref rb, .int (nI (g))])), (rb, .inl (T 3, n, qa fb)), (h, .inr (1, biF a q u β)), (a, .inl (T 0, 8, .inl α)), (q, .inl (T 0, 8, .inl κ)), (u, .inr (5, [.int (τ 0), .int (τ 1), .int (τ 2)])), (ad 9, .inl (T 0, 20, .inl tm))] _ _ := Mz9
  refine lv_if_ne (tgt := 50) hx hb dX5_temper_37 (by decide) (fun _ => ?_) (fun h => absurd h (hld))
  refine lv_aload_n hx hb dX5_temper_50 rfl (lv_at hl9 0 rfl) ?_
  refine lv_aload_n hx hb dX5_temper_51 rfl (lv_at hl9 0 rfl) ?_
  refine z_getf Z Mz9 hin0 3 rfl rfl 16 (by decide) L251 rfl (v := .int (β 16)) rfl dX5_temper_52 ?_
  refine lv_iload_n hx hb dX5_temper_55 rfl (lv_at hl9 3 rfl) ?_
  refine va_mmax hx hb (Z.1.2.2.1.trans hl9.1.symm) Z.1.2.2.2.1 (hts (.methodLink RX5 254 Lib.Math.max.name) (by decide +kernel)) (hts (.static Lib.Math.max.name) (by decide +kernel)) (hts (.initialized "java/lang/Math") (by decide +kernel)) (hts (.code Lib.Math.max.name Lib.Math.max.code 2 (some .int)) (by decide +kernel)) (Nat.le_of_ble_eq_true rfl) (Nat.le_of_ble_eq_true rfl) (Nat.zero_le _) (Nat.zero_le _) dX5_temper_56 ?_
  refine z_putf Z Mz9 hin0 tyX0 tyX0_ok nmX0 3 rfl rfl 16 (by decide) L251 rfl rfl (ty := .int) rfl rfl rfl (Nat.le_of_ble_eq_true rfl) (ws' := [(o, .inr (6, hsF ad lo)), (ad 7, .inr (0, [.int (kb), .ref rb, .int (nI (g))])), (rb, .inl (T 3, n, qa fb)), (h, .inr (1, biF a q u (upd β 16 (if (β 16) < w9 then w9 else (β 16))))), (a, .inl (T 0, 8, .inl α)), (q, .inl (T 0, 8, .inl κ)), (u, .inr (5, [.int (τ 0), .int (τ 1), .int (τ 2)])), (ad 9, .inl (T 0, 20, .inl tm))]) rfl dX5_temper_59 (fun Hp9 lc9 Mz9 => ?_)
  refine lv_aload_n hx hb dX5_temper_62 rfl (lv_at hl9 0 rfl) ?_
  refine z_callVi (As := []) (rest := []) (rv := LH (fun j => if β 14 = -1 then 0 else hrc (κ j) (if (β 16) < w9 then w9 else (β 16)))) (wc := biW h a q u T (upd β 16 (if (β 16) < w9 then w9 else (β 16))) α κ τ) (wc' := biW h a q u T (upd β 16 (if (β 16) < w9 then w9 else (β 16))) α κ τ) Z Mz9 (cb_leastHardness l D T h a q u (upd β 16 (if (β 16) < w9 then w9 else (β 16))) α κ τ) (cwV 0 hts gX5_temper_X0_leastHardness rfl rfl rfl (by decide +kernel) ⟨Nat.le_of_ble_eq_true rfl, Nat.le_of_ble_eq_true rfl⟩) [3, 4, 5, 6] rfl (by decide) (fun j hj => rfl) (Nat.le_refl _) (va_recv Z.2.1 Mz9.1 (ci := 1) (q0 := 3) rfl rfl) rfl hl9.1 (Nat.le_of_ble_eq_true rfl) dX5_temper_63 ⟨Nat.le_of_ble_eq_true rfl, Nat.le_of_ble_eq_true rfl⟩ rfl (fun Hp9 lc9 Mz9 => ?_)
  have Mz9 : zM D A s.heap [(o, .inr (6, hsF ad lo)), (ad 7, .inr (0, [.int (kb), .ref rb, .int (nI (g))])), (rb, .inl (T 3, n, qa fb)), (h, .inr (1, biF a q u (upd β 16 (if (β 16) < w9 then w9 else (β 16))))), (a, .inl (T 0, 8, .inl α)), (q, .inl (T 0, 8, .inl κ)), (u, .inr (5, [.int (τ 0), .int (τ 1), .int (τ 2)])), (ad 9, .inl (T 0, 20, .inl tm))] _ _ := Mz9
  exact hret _ _ _ _ _ sl9 _ _ Mz9 (rfl) (rfl) (rfl) (Nat.le_of_ble_eq_true rfl) (Nat.le_of_ble_eq_true rfl) dX5_temper_66
set_option maxHeartbeats 4000000 in
set_option maxRecDepth 100000 in
theorem ch_temper_b (l : Launch) (hfl : l.stackTraces = false) (D : va_G) (T : Nat → ClassId) (ea mi : Nat) (sa : Nat → Nat) (o : Nat) (ad : Nat → Nat) (lo : Int32) (kb : Int32) (rb g : Nat) (v : Int32) (t : Int32) (hv9 : v < 0 ∨ nI g ≤ v) : ZB l yX5_temper wsX5_temper (zrmc 7 103 1 6) (zW ea mi sa) D T [(o, .inr (6, hsF ad lo)), (ad 7, .inr (0, [.int (kb), .ref rb, .int (nI (g))]))] [.ref o, .int (v), .int (t)] "java/lang/IndexOutOfBoundsException" := by
  refine z_inB (cc := cX5_temper) (maxL := 4) (ret := (some .int)) (by decide +kernel) rfl (Nat.le_of_ble_eq_true rfl) ?_
  intro p e s m args below meth c sl9 A hA Z hW Mz9 hl9 hE
  have Z : zC p s m args c cX5_temper 4 RX5 wsX5_temper D T A := Z
  have hx := Z.1.1
  have hb := Z.1.2.1
  have hts := Z.1.2.2.2.2
  have hin5 : ∀ w ∈ wsX50, w ∈ wsX5_temper := by decide +kernel
  have hinL : ∀ w ∈ wsJx4a65c0, w ∈ wsX5_temper := by decide +kernel
  have hin0 : ∀ w ∈ wsX00, w ∈ wsX5_temper := by decide +kernel
  have L132 := hts (.fieldLink RX5 132 "AnvilHouse$Billet" "load" "I") (by decide +kernel)
  have L251 := hts (.fieldLink RX5 251 "AnvilHouse$Billet" "tempered" "I") (by decide +kernel)
  have hl9 : lv_has sl9 4 [(0, .ref o), (1, .int (v)), (2, .int (t))] := hl9
  refine lv_aload_n hx hb dX5_temper_0 rfl (lv_at hl9 0 rfl) ?_
  refine lv_iload_n hx hb dX5_temper_1 rfl (lv_at hl9 1 rfl) ?_
  exact z_callB (As := [.int (v)]) (rest := []) (wc := [(o, .inr (6, hsF ad lo)), (ad 7, .inr (0, [.int (kb), .ref rb, .int (nI (g))]))]) (zW_k ea mi sa) hW Z Mz9 hA hE (ch_billetAt_bad l hfl D T ea mi sa o ad lo kb rb g v hv9) (cwV 1 hts gX5_temper_X5_billetAt rfl rfl rfl (by decide +kernel) ⟨Nat.le_of_ble_eq_true rfl, Nat.le_of_ble_eq_true rfl⟩) [0, 1] rfl (by decide) (va_recv Z.2.1 Mz9.1 (ci := 6) (q0 := 0) rfl rfl) rfl hl9.1 (Nat.le_of_ble_eq_true rfl) dX5_temper_2 ⟨Nat.le_of_ble_eq_true rfl, Nat.le_of_ble_eq_true rfl⟩ ⟨Nat.le_of_ble_eq_true rfl, Nat.le_of_ble_eq_true rfl⟩ rfl rfl
set_option maxHeartbeats 4000000 in
set_option maxRecDepth 100000 in
theorem ch_temper_a (l : Launch) (hfl : l.stackTraces = false) (D : va_G) (T : Nat → ClassId) (ea mi : Nat) (sa : Nat → Nat) (o : Nat) (ad : Nat → Nat) (lo : Int32) (kb : Int32) (rb n g : Nat) (fb : Nat → Option Nat) (h a q u : Nat) (β : Nat → Int32) (i : Nat) (hi : i < g) (hg : g ≤ n) (hn : n ≤ 40000) (hf : fb i = some h) (w9 : Int32) (hv9 : w9 < 100 ∨ 700 < w9) : ZB l yX5_temper wsX5_temper (zrmc 6 85 1 6) (zW ea mi sa) D T [(o, .inr (6, hsF ad lo)), (ad 7, .inr (0, [.int (kb), .ref rb, .int (nI (g))])), (rb, .inl (T 3, n, qa fb)), (h, .inr (1, biF a q u β))] [.ref o, .int (nI (i)), .int (w9)] "java/lang/IllegalArgumentException" := by
  refine z_inB (cc := cX5_temper) (maxL := 4) (ret := (some .int)) (by decide +kernel) rfl (Nat.le_of_ble_eq_true rfl) ?_
  intro p e s m args below meth c sl9 A hA Z hW Mz9 hl9 hE
  have Z : zC p s m args c cX5_temper 4 RX5 wsX5_temper D T A := Z
  have hx := Z.1.1
  have hb := Z.1.2.1
  have hts := Z.1.2.2.2.2
  have hin5 : ∀ w ∈ wsX50, w ∈ wsX5_temper := by decide +kernel
  have hinL : ∀ w ∈ wsJx4a65c0, w ∈ wsX5_temper := by decide +kernel
  have hin0 : ∀ w ∈ wsX00, w ∈ wsX5_temper := by decide +kernel
  have hX9 : ∀ w ∈ Cond.classLink RX5 51 "java/lang/IllegalArgumentException" :: Cond.initialized "java/lang/IllegalArgumentException" :: (vx_atS RX5 55 "java/lang/IllegalArgumentException" zNm).filter goodWord, w ∈ wsX5_temper := by decide +kernel
  have L132 := hts (.fieldLink RX5 132 "AnvilHouse$Billet" "load" "I") (by decide +kernel)
  have L251 := hts (.fieldLink RX5 251 "AnvilHouse$Billet" "tempered" "I") (by decide +kernel)
  have hl9 : lv_has sl9 4 [(0, .ref o), (1, .int (nI (i))), (2, .int (w9))] := hl9
  refine lv_aload_n hx hb dX5_temper_0 rfl (lv_at hl9 0 rfl) ?_
  refine lv_iload_n hx hb dX5_temper_1 rfl (lv_at hl9 1 rfl) ?_
  refine z_callVr (As := [.int (nI (i))]) (rest := []) (wc := [(o, .inr (6, hsF ad lo)), (ad 7, .inr (0, [.int (kb), .ref rb, .int (nI (g))])), (rb, .inl (T 3, n, qa fb)), (h, .inr (1, biF a q u β))]) Z Mz9 (ch_billetAt l D T o ad lo kb rb n g fb h (biF a q u β) i hi hg hn hf) (cwV 1 hts gX5_temper_X5_billetAt rfl rfl rfl (by decide +kernel) ⟨Nat.le_of_ble_eq_true rfl, Nat.le_of_ble_eq_true rfl⟩) [0, 1, 2, 3] rfl (by decide) (fun _ j hj => rfl) (fun _ => Nat.le_refl _) (va_recv Z.2.1 Mz9.1 (ci := 6) (q0 := 0) rfl rfl) rfl hl9.1 (Nat.le_of_ble_eq_true rfl) dX5_temper_2 ⟨Nat.le_of_ble_eq_true rfl, Nat.le_of_ble_eq_true rfl⟩ rfl (fun _ Hp9 lc9 Mz9 => ?_)
  have Mz9 : zM D A s.heap [(o, .inr (6, hsF ad lo)), (ad 7, .inr (0, [.int (kb), .ref rb, .int (nI (g))])), (rb, .inl (T 3, n, qa fb)), (h, .inr (1, biF a q u β))] _ _ := Mz9
  refine lv_astore_n (lv' := [(3, .ref h), (0, .ref o), (1, .int (nI (i))), (2, .int (w9))]) hx hb dX5_temper_5 rfl hl9 (by decide) rfl (fun sl9 hl9 => ?_)
  refine lv_iload_n hx hb dX5_temper_6 rfl (lv_at hl9 3 rfl) ?_
  refine lv_bipush (v := 100) hx hb dX5_temper_7 (by decide) ?_
  refine lv_icmp_lt (tgt := 19) hx hb dX5_temper_9 (by decide) (fun c_1 => ?_) (fun c_1 => ?_)
  ·
    exact z_throw Z hW Mz9 hA hE hl9.1 hfl zThr_A hX9 (is := 244) (text := "a temper is at 100 to 700") (by decide +kernel) dX5_temper_19 dX5_temper_22 dX5_temper_23 dX5_temper_25 dX5_temper_28 (Nat.le_of_ble_eq_true rfl) (Nat.le_of_ble_eq_true rfl) ⟨Nat.le_of_ble_eq_true rfl, Nat.le_of_ble_eq_true rfl⟩ ⟨Nat.le_of_ble_eq_true rfl, Nat.le_of_ble_eq_true rfl⟩ rfl
  ·
    refine lv_iload_n hx hb dX5_temper_12 rfl (lv_at hl9 3 rfl) ?_
    refine lv_sipush (v := 700) hx hb dX5_temper_13 (by decide) ?_
    refine lv_icmp_le (tgt := 29) hx hb dX5_temper_16 (by decide) (fun c_2 => ?_) (fun c_2 => ?_)
    ·
      exact False.elim (by rcases hv9 with h | h <;> first | exact absurd h c_1 | exact absurd c_1 h | exact absurd h (Int32.not_lt.mpr c_1) | exact absurd (Int32.not_le.mp c_1) (Int32.not_lt.mpr h) | exact absurd c_1 (Int32.not_lt.mpr h) | exact absurd h c_2 | exact absurd c_2 h | exact absurd h (Int32.not_lt.mpr c_2) | exact absurd (Int32.not_le.mp c_2) (Int32.not_lt.mpr h) | exact absurd c_2 (Int32.not_lt.mpr h))
    ·
      exact z_throw Z hW Mz9 hA hE hl9.1 hfl zThr_A hX9 (is := 244) (text := "a temper is at 100 to 700") (by decide +kernel) dX5_temper_19 dX5_temper_22 dX5_temper_23 dX5_temper_25 dX5_temper_28 (Nat.le_of_ble_eq_true rfl) (Nat.le_of_ble_eq_true rfl) ⟨Nat.le_of_ble_eq_true rfl, Nat.le_of_ble_eq_true rfl⟩ ⟨Nat.le_of_ble_eq_true rfl, Nat.le_of_ble_eq_true rfl⟩ rfl
set_option maxHeartbeats 4000000 in
set_option maxRecDepth 100000 in
theorem ch_temper_l (l : Launch) (hfl : l.stackTraces = false) (D : va_G) (T : Nat → ClassId) (ea mi : Nat) (sa : Nat → Nat) (o : Nat) (ad : Nat → Nat) (lo : Int32) (kb : Int32) (rb n g : Nat) (fb : Nat → Option Nat) (h a q u : Nat) (β : Nat → Int32) (i : Nat) (hi : i < g) (hg : g ≤ n) (hn : n ≤ 40000) (hf : fb i = some h) (tm : Nat → Int32) (w9 : Int32) (h1 : ¬ w9 < 100) (h2 : w9 ≤ 700) (hld : isl (β 14) (nI 20) = 0) : ZB l yX5_temper wsX5_temper (zrmc 6 85 1 6) (zW ea mi sa) D T [(o, .inr (6, hsF ad lo)), (ad 7, .inr (0, [.int (kb), .ref rb, .int (nI (g))])), (rb, .inl (T 3, n, qa fb)), (h, .inr (1, biF a q u β)), (ad 9, .inl (T 0, 20, .inl tm))] [.ref o, .int (nI (i)), .int (w9)] "java/lang/IllegalStateException" := by
  refine z_inB (cc := cX5_temper) (maxL := 4) (ret := (some .int)) (by decide +kernel) rfl (Nat.le_of_ble_eq_true rfl) ?_
  intro p e s m args below meth c sl9 A hA Z hW Mz9 hl9 hE
  have Z : zC p s m args c cX5_temper 4 RX5 wsX5_temper D T A := Z
  have hx := Z.1.1
  have hb := Z.1.2.1
  have hts := Z.1.2.2.2.2
  have hin5 : ∀ w ∈ wsX50, w ∈ wsX5_temper := by decide +kernel
  have hinL : ∀ w ∈ wsJx4a65c0, w ∈ wsX5_temper := by decide +kernel
  have hin0 : ∀ w ∈ wsX00, w ∈ wsX5_temper := by decide +kernel
  have hX9 : ∀ w ∈ Cond.classLink RX5 76 "java/lang/IllegalStateException" :: Cond.initialized "java/lang/IllegalStateException" :: (vx_atS RX5 80 "java/lang/IllegalStateException" zNm).filter goodWord, w ∈ wsX5_temper := by decide +kernel
  have L132 := hts (.fieldLink RX5 132 "AnvilHouse$Billet" "load" "I") (by decide +kernel)
  have L251 := hts (.fieldLink RX5 251 "AnvilHouse$Billet" "tempered" "I") (by decide +kernel)
  have hl9 : lv_has sl9 4 [(0, .ref o), (1, .int (nI (i))), (2, .int (w9))] := hl9
  refine lv_aload_n hx hb dX5_temper_0 rfl (lv_at hl9 0 rfl) ?_
  refine lv_iload_n hx hb dX5_temper_1 rfl (lv_at hl9 1 rfl) ?_
  refine z_callVr (As := [.int (nI (i))]) (rest := []) (wc := [(o, .inr (6, hsF ad lo)), (ad 7, .inr (0, [.int (kb), .ref rb, .int (nI (g))])), (rb, .inl (T 3, n, qa fb)), (h, .inr (1, biF a q u β))]) Z Mz9 (ch_billetAt l D T o ad lo kb rb n g fb h (biF a q u β) i hi hg hn hf) (cwV 1 hts gX5_temper_X5_billetAt rfl rfl rfl (by decide +kernel) ⟨Nat.le_of_ble_eq_true rfl, Nat.le_of_ble_eq_true rfl⟩) [0, 1, 2, 3] rfl (by decide) (fun _ j hj => rfl) (fun _ => Nat.le_refl _) (va_recv Z.2.1 Mz9.1 (ci := 6) (q0 := 0) rfl rfl) rfl hl9.1 (Nat.le_of_ble_eq_true rfl) dX5_temper_2 ⟨Nat.le_of_ble_eq_true rfl, Nat.le_of_ble_eq_true rfl⟩ rfl (fun _ Hp9 lc9 Mz9 => ?_)
  have Mz9 : zM D A s.heap [(o, .inr (6, hsF ad lo)), (ad 7, .inr (0, [.int (kb), .ref rb, .int (nI (g))])), (rb, .inl (T 3, n, qa fb)), (h, .inr (1, biF a q u β)), (ad 9, .inl (T 0, 20, .inl tm))] _ _ := Mz9
  refine lv_astore_n (lv' := [(3, .ref h), (0, .ref o), (1, .int (nI (i))), (2, .int (w9))]) hx hb dX5_temper_5 rfl hl9 (by decide) rfl (fun sl9 hl9 => ?_)
  refine lv_iload_n hx hb dX5_temper_6 rfl (lv_at hl9 3 rfl) ?_
  refine lv_bipush (v := 100) hx hb dX5_temper_7 (by decide) ?_
  refine lv_icmp_lt (tgt := 19) hx hb dX5_temper_9 (by decide) (fun h => absurd h (h1)) (fun _ => ?_)
  refine lv_iload_n hx hb dX5_temper_12 rfl (lv_at hl9 3 rfl) ?_
  refine lv_sipush (v := 700) hx hb dX5_temper_13 (by decide) ?_
  refine lv_icmp_le (tgt := 29) hx hb dX5_temper_16 (by decide) (fun _ => ?_) (fun h => absurd h (fun z => z h2))
  refine lv_aload_n hx hb dX5_temper_29 rfl (lv_at hl9 1 rfl) ?_
  refine lv_aload_n hx hb dX5_temper_30 rfl (lv_at hl9 0 rfl) ?_
  refine z_getf Z Mz9 hin0 3 rfl rfl 14 (by decide) L132 rfl (v := .int (β 14)) rfl dX5_temper_31 ?_
  refine z_callVi (As := [.int (β 14)]) (rest := []) (rv := isl (β 14) (nI 20)) (wc := [(o, .inr (6, hsF ad lo)), (ad 9, .inl (T 0, 20, .inl tm))]) (wc' := [(o, .inr (6, hsF ad lo)), (ad 9, .inl (T 0, 20, .inl tm))]) Z Mz9 (ch_isLoad l D T o ad lo tm (β 14)) (cwV 1 hts gX5_temper_X5_isLoad rfl rfl rfl (by decide +kernel) ⟨Nat.le_of_ble_eq_true rfl, Nat.le_of_ble_eq_true rfl⟩) [0, 4] rfl (by decide) (fun j hj => rfl) (Nat.le_refl _) (va_recv Z.2.1 Mz9.1 (ci := 6) (q0 := 0) rfl rfl) rfl hl9.1 (Nat.le_of_ble_eq_true rfl) dX5_temper_34 ⟨Nat.le_of_ble_eq_true rfl, Nat.le_of_ble_eq_true rfl⟩ rfl (fun Hp9 lc9 Mz9 => ?_)
  have Mz9 : zM D A s.heap [(o, .inr (6, hsF ad lo)), (ad 7, .inr (0, [.int (kb), .ref rb, .int (nI (g))])), (rb, .inl (T 3, n, qa fb)), (h, .inr (1, biF a q u β)), (ad 9, .inl (T 0, 20, .inl tm))] _ _ := Mz9
  refine lv_if_ne (tgt := 50) hx hb dX5_temper_37 (by decide) (fun h => absurd h (fun z => z hld)) (fun _ => ?_)
  exact z_throw Z hW Mz9 hA hE hl9.1 hfl zThr_S hX9 (is := 249) (text := "not quenched since the latest heat") (by decide +kernel) dX5_temper_40 dX5_temper_43 dX5_temper_44 dX5_temper_46 dX5_temper_49 (Nat.le_of_ble_eq_true rfl) (Nat.le_of_ble_eq_true rfl) ⟨Nat.le_of_ble_eq_true rfl, Nat.le_of_ble_eq_true rfl⟩ ⟨Nat.le_of_ble_eq_true rfl, Nat.le_of_ble_eq_true rfl⟩ rfl
