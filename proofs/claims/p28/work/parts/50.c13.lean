/-! ===== laid by program ===== -/
/-! ===== the house: helpers ===== -/
abbrev hsF (ad : Nat → Nat) (lo : Int32) : List Value := [.ref (ad 1), .ref (ad 6), .ref (ad 7), .ref (ad 8), .ref (ad 9), .int lo, .ref (ad 10), .ref (ad 14)]
def isl (v lo : Int32) : Int32 := if v < 0 then 0 else if v < lo then 1 else 0
set_option maxHeartbeats 4000000 in
set_option maxRecDepth 100000 in
theorem ch_refuseNoSection (l : Launch) (D : va_G) (T : Nat → ClassId) (v : Nat) (h2 : v < 8) : ZV l yX5_refuseNoSection wsX5_refuseNoSection (zrm 0 0) D T [] [] [.int (nI (v))] 0 0 := by
  refine z_inV (cc := cX5_refuseNoSection) (maxL := 1) (by decide +kernel) rfl (Nat.le_of_ble_eq_true rfl) ?_
  intro p e s m args below meth c sl9 A Q Z hnm Mz9 hl9 hret
  have Z : zC p s m args c cX5_refuseNoSection 1 RX5 wsX5_refuseNoSection D T A := Z
  have hx := Z.1.1
  have hb := Z.1.2.1
  have hts := Z.1.2.2.2.2
  have hl9 : lv_has sl9 1 [(0, .int (nI (v)))] := hl9
  refine lv_iload_n hx hb dX5_refuseNoSection_0 rfl (lv_at hl9 0 rfl) ?_
  refine zn_if_lt (a := v) (tgt := 10) (by omega) hx hb dX5_refuseNoSection_1 (by decide) (fun h => absurd h (fun h => h)) (fun _ => ?_)
  refine lv_iload_n hx hb dX5_refuseNoSection_4 rfl (lv_at hl9 0 rfl) ?_
  refine lv_bipush (v := 8) hx hb dX5_refuseNoSection_5 (by decide) ?_
  refine zn_icmp_lt (a := v) (b := 8) (tgt := 21) (by omega) (by decide) hx hb dX5_refuseNoSection_7 (by decide) (fun _ => ?_) (fun h => absurd h (by omega))
  exact hret _ _ _ _ _ sl9 _ Mz9 (rfl) (Nat.le_of_ble_eq_true rfl) (Nat.le_of_ble_eq_true rfl) dX5_refuseNoSection_21
set_option maxHeartbeats 4000000 in
set_option maxRecDepth 100000 in
theorem ch_refuseNoSection_bad (l : Launch) (hfl : l.stackTraces = false) (D : va_G) (T : Nat → ClassId) (ea mi : Nat) (sa : Nat → Nat) (v : Int32) (hv9 : v < 0 ∨ 8 ≤ v) : ZB l yX5_refuseNoSection wsX5_refuseNoSection (zrmc 6 82 1 6) (zW ea mi sa) D T [] [.int (v)] "java/lang/IndexOutOfBoundsException" := by
  refine z_inB (cc := cX5_refuseNoSection) (maxL := 1) (ret := none) (by decide +kernel) rfl (Nat.le_of_ble_eq_true rfl) ?_
  intro p e s m args below meth c sl9 A hA Z hW Mz9 hl9 hE
  have Z : zC p s m args c cX5_refuseNoSection 1 RX5 wsX5_refuseNoSection D T A := Z
  have hx := Z.1.1
  have hb := Z.1.2.1
  have hts := Z.1.2.2.2.2
  have hX9 : ∀ w ∈ Cond.classLink RX5 85 "java/lang/IndexOutOfBoundsException" :: Cond.initialized "java/lang/IndexOutOfBoundsException" :: (vx_atS RX5 89 "java/lang/IndexOutOfBoundsException" zNm).filter goodWord, w ∈ wsX5_refuseNoSection := by decide +kernel
  have hl9 : lv_has sl9 1 [(0, .int (v))] := hl9
  refine lv_iload_n hx hb dX5_refuseNoSection_0 rfl (lv_at hl9 0 rfl) ?_
  refine lv_if_lt (tgt := 10) hx hb dX5_refuseNoSection_1 (by decide) (fun c_1 => ?_) (fun c_1 => ?_)
  ·
    exact z_throwW Z hW Mz9 hA hE hl9.1 hfl zThr_I hX9 (is := 313) (text := "no such section") (by decide +kernel) dX5_refuseNoSection_10 dX5_refuseNoSection_13 dX5_refuseNoSection_14 dX5_refuseNoSection_17 dX5_refuseNoSection_20 (Nat.le_of_ble_eq_true rfl) (Nat.le_of_ble_eq_true rfl) ⟨Nat.le_of_ble_eq_true rfl, Nat.le_of_ble_eq_true rfl⟩ ⟨Nat.le_of_ble_eq_true rfl, Nat.le_of_ble_eq_true rfl⟩ rfl
  ·
    refine lv_iload_n hx hb dX5_refuseNoSection_4 rfl (lv_at hl9 0 rfl) ?_
    refine lv_bipush (v := 8) hx hb dX5_refuseNoSection_5 (by decide) ?_
    refine lv_icmp_lt (tgt := 21) hx hb dX5_refuseNoSection_7 (by decide) (fun c_2 => ?_) (fun c_2 => ?_)
    ·
      exact False.elim (by rcases hv9 with h | h <;> first | exact absurd h c_1 | exact absurd c_1 h | exact absurd h (Int32.not_lt.mpr c_1) | exact absurd (Int32.not_le.mp c_1) (Int32.not_lt.mpr h) | exact absurd c_1 (Int32.not_lt.mpr h) | exact absurd h c_2 | exact absurd c_2 h | exact absurd h (Int32.not_lt.mpr c_2) | exact absurd (Int32.not_le.mp c_2) (Int32.not_lt.mpr h) | exact absurd c_2 (Int32.not_lt.mpr h))
    ·
      exact z_throwW Z hW Mz9 hA hE hl9.1 hfl zThr_I hX9 (is := 313) (text := "no such section") (by decide +kernel) dX5_refuseNoSection_10 dX5_refuseNoSection_13 dX5_refuseNoSection_14 dX5_refuseNoSection_17 dX5_refuseNoSection_20 (Nat.le_of_ble_eq_true rfl) (Nat.le_of_ble_eq_true rfl) ⟨Nat.le_of_ble_eq_true rfl, Nat.le_of_ble_eq_true rfl⟩ ⟨Nat.le_of_ble_eq_true rfl, Nat.le_of_ble_eq_true rfl⟩ rfl
set_option maxHeartbeats 4000000 in
set_option maxRecDepth 100000 in
theorem ch_refuseMinutes (l : Launch) (D : va_G) (T : Nat → ClassId) (v : Nat) (h1 : 1 ≤ v) (h2 : v ≤ 200) : ZV l yX5_refuseMinutes wsX5_refuseMinutes (zrm 0 0) D T [] [] [.int (nI (v))] 0 0 := by
  refine z_inV (cc := cX5_refuseMinutes) (maxL := 1) (by decide +kernel) rfl (Nat.le_of_ble_eq_true rfl) ?_
  intro p e s m args below meth c sl9 A Q Z hnm Mz9 hl9 hret
  have Z : zC p s m args c cX5_refuseMinutes 1 RX5 wsX5_refuseMinutes D T A := Z
  have hx := Z.1.1
  have hb := Z.1.2.1
  have hts := Z.1.2.2.2.2
  have hl9 : lv_has sl9 1 [(0, .int (nI (v)))] := hl9
  refine lv_iload_n hx hb dX5_refuseMinutes_0 rfl (lv_at hl9 0 rfl) ?_
  refine lv_iconst (v := 1) hx hb dX5_refuseMinutes_1 (by decide) ?_
  refine zn_icmp_lt (a := v) (b := 1) (tgt := 12) (by omega) (by decide) hx hb dX5_refuseMinutes_2 (by decide) (fun h => absurd h (by omega)) (fun _ => ?_)
  refine lv_iload_n hx hb dX5_refuseMinutes_5 rfl (lv_at hl9 0 rfl) ?_
  refine lv_sipush (v := 200) hx hb dX5_refuseMinutes_6 (by decide) ?_
  refine zn_icmp_le (a := v) (b := 200) (tgt := 23) (by omega) (by decide) hx hb dX5_refuseMinutes_9 (by decide) (fun _ => ?_) (fun h => absurd h (by omega))
  exact hret _ _ _ _ _ sl9 _ Mz9 (rfl) (Nat.le_of_ble_eq_true rfl) (Nat.le_of_ble_eq_true rfl) dX5_refuseMinutes_23
set_option maxHeartbeats 4000000 in
set_option maxRecDepth 100000 in
theorem ch_refuseMinutes_bad (l : Launch) (hfl : l.stackTraces = false) (D : va_G) (T : Nat → ClassId) (ea mi : Nat) (sa : Nat → Nat) (v : Int32) (hv9 : v < 1 ∨ 200 < v) : ZB l yX5_refuseMinutes wsX5_refuseMinutes (zrmc 6 82 1 6) (zW ea mi sa) D T [] [.int (v)] "java/lang/IllegalArgumentException" := by
  refine z_inB (cc := cX5_refuseMinutes) (maxL := 1) (ret := none) (by decide +kernel) rfl (Nat.le_of_ble_eq_true rfl) ?_
  intro p e s m args below meth c sl9 A hA Z hW Mz9 hl9 hE
  have Z : zC p s m args c cX5_refuseMinutes 1 RX5 wsX5_refuseMinutes D T A := Z
  have hx := Z.1.1
  have hb := Z.1.2.1
  have hts := Z.1.2.2.2.2
  have hX9 : ∀ w ∈ Cond.classLink RX5 51 "java/lang/IllegalArgumentException" :: Cond.initialized "java/lang/IllegalArgumentException" :: (vx_atS RX5 55 "java/lang/IllegalArgumentException" zNm).filter goodWord, w ∈ wsX5_refuseMinutes := by decide +kernel
  have hl9 : lv_has sl9 1 [(0, .int (v))] := hl9
  refine lv_iload_n hx hb dX5_refuseMinutes_0 rfl (lv_at hl9 0 rfl) ?_
  refine lv_iconst (v := 1) hx hb dX5_refuseMinutes_1 (by decide) ?_
  refine lv_icmp_lt (tgt := 12) hx hb dX5_refuseMinutes_2 (by decide) (fun c_1 => ?_) (fun c_1 => ?_)
  ·
    exact z_throwW Z hW Mz9 hA hE hl9.1 hfl zThr_A hX9 (is := 315) (text := "minutes are 1 to 200") (by decide +kernel) dX5_refuseMinutes_12 dX5_refuseMinutes_15 dX5_refuseMinutes_16 dX5_refuseMinutes_19 dX5_refuseMinutes_22 (Nat.le_of_ble_eq_true rfl) (Nat.le_of_ble_eq_true rfl) ⟨Nat.le_of_ble_eq_true rfl, Nat.le_of_ble_eq_true rfl⟩ ⟨Nat.le_of_ble_eq_true rfl, Nat.le_of_ble_eq_true rfl⟩ rfl
  ·
    refine lv_iload_n hx hb dX5_refuseMinutes_5 rfl (lv_at hl9 0 rfl) ?_
    refine lv_sipush (v := 200) hx hb dX5_refuseMinutes_6 (by decide) ?_
    refine lv_icmp_le (tgt := 23) hx hb dX5_refuseMinutes_9 (by decide) (fun c_2 => ?_) (fun c_2 => ?_)
    ·
      exact False.elim (by rcases hv9 with h | h <;> first | exact absurd h c_1 | exact absurd c_1 h | exact absurd h (Int32.not_lt.mpr c_1) | exact absurd (Int32.not_le.mp c_1) (Int32.not_lt.mpr h) | exact absurd c_1 (Int32.not_lt.mpr h) | exact absurd h c_2 | exact absurd c_2 h | exact absurd h (Int32.not_lt.mpr c_2) | exact absurd (Int32.not_le.mp c_2) (Int32.not_lt.mpr h) | exact absurd c_2 (Int32.not_lt.mpr h))
    ·
      exact z_throwW Z hW Mz9 hA hE hl9.1 hfl zThr_A hX9 (is := 315) (text := "minutes are 1 to 200") (by decide +kernel) dX5_refuseMinutes_12 dX5_refuseMinutes_15 dX5_refuseMinutes_16 dX5_refuseMinutes_19 dX5_refuseMinutes_22 (Nat.le_of_ble_eq_true rfl) (Nat.le_of_ble_eq_true rfl) ⟨Nat.le_of_ble_eq_true rfl, Nat.le_of_ble_eq_true rfl⟩ ⟨Nat.le_of_ble_eq_true rfl, Nat.le_of_ble_eq_true rfl⟩ rfl
set_option maxHeartbeats 4000000 in
set_option maxRecDepth 100000 in
theorem ch_refuseNoPattern (l : Launch) (D : va_G) (T : Nat → ClassId) (v : Nat) (h2 : v < 256) : ZV l yX5_refuseNoPattern wsX5_refuseNoPattern (zrm 0 0) D T [] [] [.int (nI (v))] 0 0 := by
  refine z_inV (cc := cX5_refuseNoPattern) (maxL := 1) (by decide +kernel) rfl (Nat.le_of_ble_eq_true rfl) ?_
  intro p e s m args below meth c sl9 A Q Z hnm Mz9 hl9 hret
  have Z : zC p s m args c cX5_refuseNoPattern 1 RX5 wsX5_refuseNoPattern D T A := Z
  have hx := Z.1.1
  have hb := Z.1.2.1
  have hts := Z.1.2.2.2.2
  have hl9 : lv_has sl9 1 [(0, .int (nI (v)))] := hl9
  refine lv_iload_n hx hb dX5_refuseNoPattern_0 rfl (lv_at hl9 0 rfl) ?_
  refine zn_if_lt (a := v) (tgt := 11) (by omega) hx hb dX5_refuseNoPattern_1 (by decide) (fun h => absurd h (fun h => h)) (fun _ => ?_)
  refine lv_iload_n hx hb dX5_refuseNoPattern_4 rfl (lv_at hl9 0 rfl) ?_
  refine lv_sipush (v := 256) hx hb dX5_refuseNoPattern_5 (by decide) ?_
  refine zn_icmp_lt (a := v) (b := 256) (tgt := 22) (by omega) (by decide) hx hb dX5_refuseNoPattern_8 (by decide) (fun _ => ?_) (fun h => absurd h (by omega))
  exact hret _ _ _ _ _ sl9 _ Mz9 (rfl) (Nat.le_of_ble_eq_true rfl) (Nat.le_of_ble_eq_true rfl) dX5_refuseNoPattern_22
set_option maxHeartbeats 4000000 in
set_option maxRecDepth 100000 in
theorem ch_refuseNoPattern_bad (l : Launch) (hfl : l.stackTraces = false) (D : va_G) (T : Nat → ClassId) (ea mi : Nat) (sa : Nat → Nat) (v : Int32) (hv9 : v < 0 ∨ 256 ≤ v) : ZB l yX5_refuseNoPattern wsX5_refuseNoPattern (zrmc 6 82 1 6) (zW ea mi sa) D T [] [.int (v)] "java/lang/IllegalArgumentException" := by
  refine z_inB (cc := cX5_refuseNoPattern) (maxL := 1) (ret := none) (by decide +kernel) rfl (Nat.le_of_ble_eq_true rfl) ?_
  intro p e s m args below meth c sl9 A hA Z hW Mz9 hl9 hE
  have Z : zC p s m args c cX5_refuseNoPattern 1 RX5 wsX5_refuseNoPattern D T A := Z
  have hx := Z.1.1
  have hb := Z.1.2.1
  have hts := Z.1.2.2.2.2
  have hX9 : ∀ w ∈ Cond.classLink RX5 51 "java/lang/IllegalArgumentException" :: Cond.initialized "java/lang/IllegalArgumentException" :: (vx_atS RX5 55 "java/lang/IllegalArgumentException" zNm).filter goodWord, w ∈ wsX5_refuseNoPattern := by decide +kernel
  have hl9 : lv_has sl9 1 [(0, .int (v))] := hl9
  refine lv_iload_n hx hb dX5_refuseNoPattern_0 rfl (lv_at hl9 0 rfl) ?_
  refine lv_if_lt (tgt := 11) hx hb dX5_refuseNoPattern_1 (by decide) (fun c_1 => ?_) (fun c_1 => ?_)
  ·
    exact z_throwW Z hW Mz9 hA hE hl9.1 hfl zThr_A hX9 (is := 317) (text := "a pattern is 0 to 255") (by decide +kernel) dX5_refuseNoPattern_11 dX5_refuseNoPattern_14 dX5_refuseNoPattern_15 dX5_refuseNoPattern_18 dX5_refuseNoPattern_21 (Nat.le_of_ble_eq_true rfl) (Nat.le_of_ble_eq_true rfl) ⟨Nat.le_of_ble_eq_true rfl, Nat.le_of_ble_eq_true rfl⟩ ⟨Nat.le_of_ble_eq_true rfl, Nat.le_of_ble_eq_true rfl⟩ rfl
  ·
    refine lv_iload_n hx hb dX5_refuseNoPattern_4 rfl (lv_at hl9 0 rfl) ?_
    refine lv_sipush (v := 256) hx hb dX5_refuseNoPattern_5 (by decide) ?_
    refine lv_icmp_lt (tgt := 22) hx hb dX5_refuseNoPattern_8 (by decide) (fun c_2 => ?_) (fun c_2 => ?_)
    ·
      exact False.elim (by rcases hv9 with h | h <;> first | exact absurd h c_1 | exact absurd c_1 h | exact absurd h (Int32.not_lt.mpr c_1) | exact absurd (Int32.not_le.mp c_1) (Int32.not_lt.mpr h) | exact absurd c_1 (Int32.not_lt.mpr h) | exact absurd h c_2 | exact absurd c_2 h | exact absurd h (Int32.not_lt.mpr c_2) | exact absurd (Int32.not_le.mp c_2) (Int32.not_lt.mpr h) | exact absurd c_2 (Int32.not_lt.mpr h))
    ·
      exact z_throwW Z hW Mz9 hA hE hl9.1 hfl zThr_A hX9 (is := 317) (text := "a pattern is 0 to 255") (by decide +kernel) dX5_refuseNoPattern_11 dX5_refuseNoPattern_14 dX5_refuseNoPattern_15 dX5_refuseNoPattern_18 dX5_refuseNoPattern_21 (Nat.le_of_ble_eq_true rfl) (Nat.le_of_ble_eq_true rfl) ⟨Nat.le_of_ble_eq_true rfl, Nat.le_of_ble_eq_true rfl⟩ ⟨Nat.le_of_ble_eq_true rfl, Nat.le_of_ble_eq_true rfl⟩ rfl
set_option maxHeartbeats 4000000 in
set_option maxRecDepth 100000 in
theorem ch_isLoad (l : Launch) (D : va_G) (T : Nat → ClassId) (o : Nat) (ad : Nat → Nat) (lo : Int32) (tm : Nat → Int32) (v : Int32) : ZI l yX5_isLoad wsX5_isLoad (zrm 0 0) D T [(o, .inr (6, hsF ad lo)), (ad 9, .inl (T 0, 20, .inl tm))] [(o, .inr (6, hsF ad lo)), (ad 9, .inl (T 0, 20, .inl tm))] [.ref o, .int (v)] (isl v (nI 20)) 0 0 := by
  refine z_inI (cc := cX5_isLoad) (maxL := 2) (rt := .boolean) (by decide +kernel) rfl (Nat.le_of_ble_eq_true rfl) ?_
  intro p e s m args below meth c sl9 A Q Z hnm Mz9 hl9 hret
  have Z : zC p s m args c cX5_isLoad 2 RX5 wsX5_isLoad D T A := Z
  have hx := Z.1.1
  have hb := Z.1.2.1
  have hts := Z.1.2.2.2.2
  have hin5 : ∀ w ∈ wsX50, w ∈ wsX5_isLoad := by decide +kernel
  have L28 := hts (.fieldLink RX5 28 "AnvilHouse" "testedMelts" "[I") (by decide +kernel)
  have hl9 : lv_has sl9 2 [(0, .ref o), (1, .int (v))] := hl9
  refine lv_iload_n hx hb dX5_isLoad_0 rfl (lv_at hl9 1 rfl) ?_
  refine lv_if_lt (tgt := 17) hx hb dX5_isLoad_1 (by decide) (fun c_1 => ?_) (fun c_1 => ?_)
  ·
    refine lv_iconst (v := 0) hx hb dX5_isLoad_17 (by decide) ?_
    exact hret _ _ _ _ _ sl9 _ _ Mz9 (rfl) (by simp only [isl, if_pos c_1]) (rfl) (Nat.le_of_ble_eq_true rfl) (Nat.le_of_ble_eq_true rfl) dX5_isLoad_18
  ·
    refine lv_iload_n hx hb dX5_isLoad_4 rfl (lv_at hl9 1 rfl) ?_
    refine lv_aload_n hx hb dX5_isLoad_5 rfl (lv_at hl9 0 rfl) ?_
    refine z_getf Z Mz9 hin5 0 rfl rfl 4 (by decide) L28 rfl (v := .ref (ad 9)) rfl dX5_isLoad_6 ?_
    refine z_alen Z Mz9 1 (h0 := ad 9) (n := 20) (f := tm) rfl dX5_isLoad_9 ?_
    refine lv_icmp_ge (tgt := 17) hx hb dX5_isLoad_10 (by decide) (fun c_2 => ?_) (fun c_2 => ?_)
    ·
      refine lv_iconst (v := 0) hx hb dX5_isLoad_17 (by decide) ?_
      exact hret _ _ _ _ _ sl9 _ _ Mz9 (rfl) (by simp only [isl, if_neg c_1, if_neg (Int32.not_lt.mpr c_2)]) (rfl) (Nat.le_of_ble_eq_true rfl) (Nat.le_of_ble_eq_true rfl) dX5_isLoad_18
    ·
      refine lv_iconst (v := 1) hx hb dX5_isLoad_13 (by decide) ?_
      refine lv_goto (tgt := 18) hx hb dX5_isLoad_14 (by decide) ?_
      exact hret _ _ _ _ _ sl9 _ _ Mz9 (rfl) (by simp only [isl, if_neg c_1, if_pos (Int32.not_le.mp c_2)]) (rfl) (Nat.le_of_ble_eq_true rfl) (Nat.le_of_ble_eq_true rfl) dX5_isLoad_18
set_option maxHeartbeats 4000000 in
set_option maxRecDepth 100000 in
theorem ch_billetAt (l : Launch) (D : va_G) (T : Nat → ClassId) (o : Nat) (ad : Nat → Nat) (lo : Int32) (kb : Int32) (rb n g : Nat) (fb : Nat → Option Nat) (h : Nat) (vs : List Value) (i : Nat) (hi : i < g) (hg : g ≤ n) (hn : n ≤ 40000) (hf : fb i = some h) : ZR l yX5_billetAt wsX5_billetAt (zrm 3 64) D T (S := Unit) [(o, .inr (6, hsF ad lo)), (ad 7, .inr (0, [.int (kb), .ref rb, .int (nI (g))])), (rb, .inl (T 3, n, qa fb)), (h, .inr (1, vs))] (fun _ => [(o, .inr (6, hsF ad lo)), (ad 7, .inr (0, [.int (kb), .ref rb, .int (nI (g))])), (rb, .inl (T 3, n, qa fb)), (h, .inr (1, vs))]) [.ref o, .int (nI (i))] (fun _ => h) 0 0 := by
  refine z_inR (cc := cX5_billetAt) (maxL := 2) (rt := (.object "AnvilHouse$Billet")) (by decide +kernel) rfl (Nat.le_of_ble_eq_true rfl) (Or.inl ⟨_, rfl⟩) ?_
  intro p e s m args below meth c sl9 A Q Z hnm Mz9 hl9 hret
  have Z : zC p s m args c cX5_billetAt 2 RX5 wsX5_billetAt D T A := Z
  have hx := Z.1.1
  have hb := Z.1.2.1
  have hts := Z.1.2.2.2.2
  have hin5 : ∀ w ∈ wsX50, w ∈ wsX5_billetAt := by decide +kernel
  have hinL : ∀ w ∈ wsJx4a65c0, w ∈ wsX5_billetAt := by decide +kernel
  have L22 := hts (.fieldLink RX5 22 "AnvilHouse" "billets" "Ljava/util/ArrayList;") (by decide +kernel)
  have hl9 : lv_has sl9 2 [(0, .ref o), (1, .int (nI (i)))] := hl9
  refine lv_iload_n hx hb dX5_billetAt_0 rfl (lv_at hl9 1 rfl) ?_
  refine zn_if_lt (a := i) (tgt := 15) (by omega) hx hb dX5_billetAt_1 (by decide) (fun h => absurd h (fun h => h)) (fun _ => ?_)
  refine lv_iload_n hx hb dX5_billetAt_4 rfl (lv_at hl9 1 rfl) ?_
  refine lv_aload_n hx hb dX5_billetAt_5 rfl (lv_at hl9 0 rfl) ?_
  refine z_getf Z Mz9 hin5 0 rfl rfl 2 (by decide) L22 rfl (v := .ref (ad 7)) rfl dX5_billetAt_6 ?_
  refine z_callVi (As := []) (rest := [.int (nI (i))]) (rv := nI (g)) (wc := leW (ad 7) (.ref rb) kb (nI (g))) (wc' := leW (ad 7) (.ref rb) kb (nI (g))) Z Mz9 (cl_size l D T (ad 7) (.ref rb) kb (nI (g))) (cwV 0 hts gX5_billetAt_Jx4a65c_size_8abf5 rfl rfl rfl (by decide +kernel) ⟨Nat.le_of_ble_eq_true rfl, Nat.le_of_ble_eq_true rfl⟩) [1] rfl (by decide) (fun j hj => rfl) (Nat.le_refl _) (va_recv Z.2.1 Mz9.1 (ci := 0) (q0 := 1) rfl rfl) rfl hl9.1 (Nat.le_of_ble_eq_true rfl) dX5_billetAt_9 ⟨Nat.le_of_ble_eq_true rfl, Nat.le_of_ble_eq_true rfl⟩ rfl (fun Hp9 lc9 Mz9 => ?_)
  have Mz9 : zM D A s.heap [(o, .inr (6, hsF ad lo)), (ad 7, .inr (0, [.int (kb), .ref rb, .int (nI (g))])), (rb, .inl (T 3, n, qa fb)), (h, .inr (1, vs))] _ _ := Mz9
  refine zn_icmp_lt (a := i) (b := g) (tgt := 26) (by omega) (by omega) hx hb dX5_billetAt_12 (by decide) (fun _ => ?_) (fun h => absurd h (by omega))
  refine lv_aload_n hx hb dX5_billetAt_26 rfl (lv_at hl9 0 rfl) ?_
  refine z_getf Z Mz9 hin5 0 rfl rfl 2 (by decide) L22 rfl (v := .ref (ad 7)) rfl dX5_billetAt_27 ?_
  refine lv_iload_n hx hb dX5_billetAt_30 rfl (lv_at hl9 1 rfl) ?_
  refine z_callVr (As := [.int (nI (i))]) (rest := []) (wc := liW (ad 7) rb n T kb (nI (g)) fb) Z Mz9 (cl_get l D T (ad 7) rb n (i) h g kb fb hi hg (by omega) hf) (cwV 1 hts gX5_billetAt_Jx4a65c_get_915e3 rfl rfl rfl (by decide +kernel) ⟨Nat.le_of_ble_eq_true rfl, Nat.le_of_ble_eq_true rfl⟩) [1, 2] rfl (by decide) (fun _ j hj => rfl) (fun _ => Nat.le_refl _) (va_recv Z.2.1 Mz9.1 (ci := 0) (q0 := 1) rfl rfl) rfl hl9.1 (Nat.le_of_ble_eq_true rfl) dX5_billetAt_31 ⟨Nat.le_of_ble_eq_true rfl, Nat.le_of_ble_eq_true rfl⟩ rfl (fun _ Hp9 lc9 Mz9 => ?_)
  have Mz9 : zM D A s.heap [(o, .inr (6, hsF ad lo)), (ad 7, .inr (0, [.int (kb), .ref rb, .int (nI (g))])), (rb, .inl (T 3, n, qa fb)), (h, .inr (1, vs))] _ _ := Mz9
  refine va_castS hx hb Z.1.2.2.2.1 (hts (.classLink RX5 94 RX0) (by decide +kernel)) (Z.2.1.1 1 (RX0, TX0, 18) rfl).2 (va_recv Z.2.1 Mz9.1 (ci := 1) (q0 := 3) rfl rfl) dX5_billetAt_34 ?_
  exact hret _ _ _ _ _ sl9 h _ () Mz9 (rfl) rfl (Nat.le_of_ble_eq_true rfl) (Nat.le_of_ble_eq_true rfl) dX5_billetAt_37
set_option maxHeartbeats 4000000 in
set_option maxRecDepth 100000 in
theorem ch_billetAt_bad (l : Launch) (hfl : l.stackTraces = false) (D : va_G) (T : Nat → ClassId) (ea mi : Nat) (sa : Nat → Nat) (o : Nat) (ad : Nat → Nat) (lo : Int32) (kb : Int32) (rb g : Nat) (v : Int32) (hv9 : v < 0 ∨ nI g ≤ v) : ZB l yX5_billetAt wsX5_billetAt (zrmc 6 82 1 6) (zW ea mi sa) D T [(o, .inr (6, hsF ad lo)), (ad 7, .inr (0, [.int (kb), .ref rb, .int (nI (g))]))] [.ref o, .int (v)] "java/lang/IndexOutOfBoundsException" := by
  refine z_inB (cc := cX5_billetAt) (maxL := 2) (ret := (some (.object "AnvilHouse$Billet"))) (by decide +kernel) rfl (Nat.le_of_ble_eq_true rfl) ?_
  intro p e s m args below meth c sl9 A hA Z hW Mz9 hl9 hE
  have Z : zC p s m args c cX5_billetAt 2 RX5 wsX5_billetAt D T A := Z
  have hx := Z.1.1
  have hb := Z.1.2.1
  have hts := Z.1.2.2.2.2
  have hin5 : ∀ w ∈ wsX50, w ∈ wsX5_billetAt := by decide +kernel
  have hinL : ∀ w ∈ wsJx4a65c0, w ∈ wsX5_billetAt := by decide +kernel
  have hX9 : ∀ w ∈ Cond.classLink RX5 85 "java/lang/IndexOutOfBoundsException" :: Cond.initialized "java/lang/IndexOutOfBoundsException" :: (vx_atS RX5 89 "java/lang/IndexOutOfBoundsException" zNm).filter goodWord, w ∈ wsX5_billetAt := by decide +kernel
  have L22 := hts (.fieldLink RX5 22 "AnvilHouse" "billets" "Ljava/util/ArrayList;") (by decide +kernel)
  have hl9 : lv_has sl9 2 [(0, .ref o), (1, .int (v))] := hl9
  refine lv_iload_n hx hb dX5_billetAt_0 rfl (lv_at hl9 1 rfl) ?_
  refine lv_if_lt (tgt := 15) hx hb dX5_billetAt_1 (by decide) (fun c_1 => ?_) (fun c_1 => ?_)
  ·
    exact z_throwW Z hW Mz9 hA hE hl9.1 hfl zThr_I hX9 (is := 309) (text := "no such billet") (by decide +kernel) dX5_billetAt_15 dX5_billetAt_18 dX5_billetAt_19 dX5_billetAt_22 dX5_billetAt_25 (Nat.le_of_ble_eq_true rfl) (Nat.le_of_ble_eq_true rfl) ⟨Nat.le_of_ble_eq_true rfl, Nat.le_of_ble_eq_true rfl⟩ ⟨Nat.le_of_ble_eq_true rfl, Nat.le_of_ble_eq_true rfl⟩ rfl
  ·
    refine lv_iload_n hx hb dX5_billetAt_4 rfl (lv_at hl9 1 rfl) ?_
    refine lv_aload_n hx hb dX5_billetAt_5 rfl (lv_at hl9 0 rfl) ?_
    refine z_getf Z Mz9 hin5 0 rfl rfl 2 (by decide) L22 rfl (v := .ref (ad 7)) rfl dX5_billetAt_6 ?_
    refine z_callVi (As := []) (rest := [.int (v)]) (rv := nI (g)) (wc := leW (ad 7) (.ref rb) kb (nI (g))) (wc' := leW (ad 7) (.ref rb) kb (nI (g))) Z Mz9 (cl_size l D T (ad 7) (.ref rb) kb (nI (g))) (cwV 0 hts gX5_billetAt_Jx4a65c_size_8abf5 rfl rfl rfl (by decide +kernel) ⟨Nat.le_of_ble_eq_true rfl, Nat.le_of_ble_eq_true rfl⟩) [1] rfl (by decide) (fun j hj => rfl) (Nat.le_refl _) (va_recv Z.2.1 Mz9.1 (ci := 0) (q0 := 1) rfl rfl) rfl hl9.1 (Nat.le_of_ble_eq_true rfl) dX5_billetAt_9 ⟨Nat.le_of_ble_eq_true rfl, Nat.le_of_ble_eq_true rfl⟩ rfl (fun Hp9 lc9 Mz9 => ?_)
    have Mz9 : zM D A s.heap [(o, .inr (6, hsF ad lo)), (ad 7, .inr (0, [.int (kb), .ref rb, .int (nI (g))]))] _ _ := Mz9
    refine lv_icmp_lt (tgt := 26) hx hb dX5_billetAt_12 (by decide) (fun c_2 => ?_) (fun c_2 => ?_)
    ·
      exact False.elim (by rcases hv9 with h | h <;> first | exact absurd h c_1 | exact absurd c_1 h | exact absurd h (Int32.not_lt.mpr c_1) | exact absurd (Int32.not_le.mp c_1) (Int32.not_lt.mpr h) | exact absurd c_1 (Int32.not_lt.mpr h) | exact absurd h c_2 | exact absurd c_2 h | exact absurd h (Int32.not_lt.mpr c_2) | exact absurd (Int32.not_le.mp c_2) (Int32.not_lt.mpr h) | exact absurd c_2 (Int32.not_lt.mpr h))
    ·
      exact z_throwW Z hW Mz9 hA hE hl9.1 hfl zThr_I hX9 (is := 309) (text := "no such billet") (by decide +kernel) dX5_billetAt_15 dX5_billetAt_18 dX5_billetAt_19 dX5_billetAt_22 dX5_billetAt_25 (Nat.le_of_ble_eq_true rfl) (Nat.le_of_ble_eq_true rfl) ⟨Nat.le_of_ble_eq_true rfl, Nat.le_of_ble_eq_true rfl⟩ ⟨Nat.le_of_ble_eq_true rfl, Nat.le_of_ble_eq_true rfl⟩ rfl
set_option maxHeartbeats 4000000 in
set_option maxRecDepth 100000 in
theorem ch_dieAt (l : Launch) (D : va_G) (T : Nat → ClassId) (o : Nat) (ad : Nat → Nat) (lo : Int32) (kd : Int32) (rd nd gd : Nat) (fd : Nat → Option Nat) (d : Nat) (vs : List Value) (i9 : Nat) (hi9 : i9 < gd) (hg9 : gd ≤ nd) (hn9 : nd ≤ 40000) (hf9 : fd i9 = some d) : ZR l yX5_dieAt wsX5_dieAt (zrm 3 64) D T (S := Unit) [(o, .inr (6, hsF ad lo)), (ad 8, .inr (0, [.int (kd), .ref rd, .int (nI (gd))])), (rd, .inl (T 3, nd, qa fd)), (d, .inr (2, vs))] (fun _ => [(o, .inr (6, hsF ad lo)), (ad 8, .inr (0, [.int (kd), .ref rd, .int (nI (gd))])), (rd, .inl (T 3, nd, qa fd)), (d, .inr (2, vs))]) [.ref o, .int (nI (i9))] (fun _ => d) 0 0 := by
  refine z_inR (cc := cX5_dieAt) (maxL := 2) (rt := (.object "AnvilHouse$Die")) (by decide +kernel) rfl (Nat.le_of_ble_eq_true rfl) (Or.inl ⟨_, rfl⟩) ?_
  intro p e s m args below meth c sl9 A Q Z hnm Mz9 hl9 hret
  have Z : zC p s m args c cX5_dieAt 2 RX5 wsX5_dieAt D T A := Z
  have hx := Z.1.1
  have hb := Z.1.2.1
  have hts := Z.1.2.2.2.2
  have hin5 : ∀ w ∈ wsX50, w ∈ wsX5_dieAt := by decide +kernel
  have hinL : ∀ w ∈ wsJx4a65c0, w ∈ wsX5_dieAt := by decide +kernel
  have L25 := hts (.fieldLink RX5 25 "AnvilHouse" "dies" "Ljava/util/ArrayList;") (by decide +kernel)
  have hl9 : lv_has sl9 2 [(0, .ref o), (1, .int (nI (i9)))] := hl9
  refine lv_iload_n hx hb dX5_dieAt_0 rfl (lv_at hl9 1 rfl) ?_
  refine zn_if_lt (a := i9) (tgt := 15) (by omega) hx hb dX5_dieAt_1 (by decide) (fun h => absurd h (fun h => h)) (fun _ => ?_)
  refine lv_iload_n hx hb dX5_dieAt_4 rfl (lv_at hl9 1 rfl) ?_
  refine lv_aload_n hx hb dX5_dieAt_5 rfl (lv_at hl9 0 rfl) ?_
  refine z_getf Z Mz9 hin5 0 rfl rfl 3 (by decide) L25 rfl (v := .ref (ad 8)) rfl dX5_dieAt_6 ?_
  refine z_callVi (As := []) (rest := [.int (nI (i9))]) (rv := nI (gd)) (wc := leW (ad 8) (.ref rd) kd (nI (gd))) (wc' := leW (ad 8) (.ref rd) kd (nI (gd))) Z Mz9 (cl_size l D T (ad 8) (.ref rd) kd (nI (gd))) (cwV 0 hts gX5_dieAt_Jx4a65c_size_8abf5 rfl rfl rfl (by decide +kernel) ⟨Nat.le_of_ble_eq_true rfl, Nat.le_of_ble_eq_true rfl⟩) [1] rfl (by decide) (fun j hj => rfl) (Nat.le_refl _) (va_recv Z.2.1 Mz9.1 (ci := 0) (q0 := 1) rfl rfl) rfl hl9.1 (Nat.le_of_ble_eq_true rfl) dX5_dieAt_9 ⟨Nat.le_of_ble_eq_true rfl, Nat.le_of_ble_eq_true rfl⟩ rfl (fun Hp9 lc9 Mz9 => ?_)
  have Mz9 : zM D A s.heap [(o, .inr (6, hsF ad lo)), (ad 8, .inr (0, [.int (kd), .ref rd, .int (nI (gd))])), (rd, .inl (T 3, nd, qa fd)), (d, .inr (2, vs))] _ _ := Mz9
  refine zn_icmp_lt (a := i9) (b := gd) (tgt := 26) (by omega) (by omega) hx hb dX5_dieAt_12 (by decide) (fun _ => ?_) (fun h => absurd h (by omega))
  refine lv_aload_n hx hb dX5_dieAt_26 rfl (lv_at hl9 0 rfl) ?_
  refine z_getf Z Mz9 hin5 0 rfl rfl 3 (by decide) L25 rfl (v := .ref (ad 8)) rfl dX5_dieAt_27 ?_
  refine lv_iload_n hx hb dX5_dieAt_30 rfl (lv_at hl9 1 rfl) ?_
  refine z_callVr (As := [.int (nI (i9))]) (rest := []) (wc := liW (ad 8) rd nd T kd (nI (gd)) fd) Z Mz9 (cl_get l D T (ad 8) rd nd (i9) d gd kd fd hi9 hg9 (by omega) hf9) (cwV 1 hts gX5_dieAt_Jx4a65c_get_915e3 rfl rfl rfl (by decide +kernel) ⟨Nat.le_of_ble_eq_true rfl, Nat.le_of_ble_eq_true rfl⟩) [1, 2] rfl (by decide) (fun _ j hj => rfl) (fun _ => Nat.le_refl _) (va_recv Z.2.1 Mz9.1 (ci := 0) (q0 := 1) rfl rfl) rfl hl9.1 (Nat.le_of_ble_eq_true rfl) dX5_dieAt_31 ⟨Nat.le_of_ble_eq_true rfl, Nat.le_of_ble_eq_true rfl⟩ rfl (fun _ Hp9 lc9 Mz9 => ?_)
  have Mz9 : zM D A s.heap [(o, .inr (6, hsF ad lo)), (ad 8, .inr (0, [.int (kd), .ref rd, .int (nI (gd))])), (rd, .inl (T 3, nd, qa fd)), (d, .inr (2, vs))] _ _ := Mz9
  refine va_castS hx hb Z.1.2.2.2.1 (hts (.classLink RX5 198 RX1) (by decide +kernel)) (Z.2.1.1 2 (RX1, TX1, 2) rfl).2 (va_recv Z.2.1 Mz9.1 (ci := 2) (q0 := 3) rfl rfl) dX5_dieAt_34 ?_
  exact hret _ _ _ _ _ sl9 d _ () Mz9 (rfl) rfl (Nat.le_of_ble_eq_true rfl) (Nat.le_of_ble_eq_true rfl) dX5_dieAt_37
set_option maxHeartbeats 4000000 in
set_option maxRecDepth 100000 in
theorem ch_dieAt_bad (l : Launch) (hfl : l.stackTraces = false) (D : va_G) (T : Nat → ClassId) (ea mi : Nat) (sa : Nat → Nat) (o : Nat) (ad : Nat → Nat) (lo : Int32) (kd : Int32) (rd gd : Nat) (v : Int32) (hv9 : v < 0 ∨ nI gd ≤ v) : ZB l yX5_dieAt wsX5_dieAt (zrmc 6 82 1 6) (zW ea mi sa) D T [(o, .inr (6, hsF ad lo)), (ad 8, .inr (0, [.int (kd), .ref rd, .int (nI (gd))]))] [.ref o, .int (v)] "java/lang/IndexOutOfBoundsException" := by
  refine z_inB (cc := cX5_dieAt) (maxL := 2) (ret := (some (.object "AnvilHouse$Die"))) (by decide +kernel) rfl (Nat.le_of_ble_eq_true rfl) ?_
  intro p e s m args below meth c sl9 A hA Z hW Mz9 hl9 hE
  have Z : zC p s m args c cX5_dieAt 2 RX5 wsX5_dieAt D T A := Z
  have hx := Z.1.1
  have hb := Z.1.2.1
  have hts := Z.1.2.2.2.2
  have hin5 : ∀ w ∈ wsX50, w ∈ wsX5_dieAt := by decide +kernel
  have hinL : ∀ w ∈ wsJx4a65c0, w ∈ wsX5_dieAt := by decide +kernel
  have hX9 : ∀ w ∈ Cond.classLink RX5 85 "java/lang/IndexOutOfBoundsException" :: Cond.initialized "java/lang/IndexOutOfBoundsException" :: (vx_atS RX5 89 "java/lang/IndexOutOfBoundsException" zNm).filter goodWord, w ∈ wsX5_dieAt := by decide +kernel
  have L25 := hts (.fieldLink RX5 25 "AnvilHouse" "dies" "Ljava/util/ArrayList;") (by decide +kernel)
  have hl9 : lv_has sl9 2 [(0, .ref o), (1, .int (v))] := hl9
  refine lv_iload_n hx hb dX5_dieAt_0 rfl (lv_at hl9 1 rfl) ?_
  refine lv_if_lt (tgt := 15) hx hb dX5_dieAt_1 (by decide) (fun c_1 => ?_) (fun c_1 => ?_)
  ·
    exact z_throwW Z hW Mz9 hA hE hl9.1 hfl zThr_I hX9 (is := 311) (text := "no such die") (by decide +kernel) dX5_dieAt_15 dX5_dieAt_18 dX5_dieAt_19 dX5_dieAt_22 dX5_dieAt_25 (Nat.le_of_ble_eq_true rfl) (Nat.le_of_ble_eq_true rfl) ⟨Nat.le_of_ble_eq_true rfl, Nat.le_of_ble_eq_true rfl⟩ ⟨Nat.le_of_ble_eq_true rfl, Nat.le_of_ble_eq_true rfl⟩ rfl
  ·
    refine lv_iload_n hx hb dX5_dieAt_4 rfl (lv_at hl9 1 rfl) ?_
    refine lv_aload_n hx hb dX5_dieAt_5 rfl (lv_at hl9 0 rfl) ?_
    refine z_getf Z Mz9 hin5 0 rfl rfl 3 (by decide) L25 rfl (v := .ref (ad 8)) rfl dX5_dieAt_6 ?_
    refine z_callVi (As := []) (rest := [.int (v)]) (rv := nI (gd)) (wc := leW (ad 8) (.ref rd) kd (nI (gd))) (wc' := leW (ad 8) (.ref rd) kd (nI (gd))) Z Mz9 (cl_size l D T (ad 8) (.ref rd) kd (nI (gd))) (cwV 0 hts gX5_dieAt_Jx4a65c_size_8abf5 rfl rfl rfl (by decide +kernel) ⟨Nat.le_of_ble_eq_true rfl, Nat.le_of_ble_eq_true rfl⟩) [1] rfl (by decide) (fun j hj => rfl) (Nat.le_refl _) (va_recv Z.2.1 Mz9.1 (ci := 0) (q0 := 1) rfl rfl) rfl hl9.1 (Nat.le_of_ble_eq_true rfl) dX5_dieAt_9 ⟨Nat.le_of_ble_eq_true rfl, Nat.le_of_ble_eq_true rfl⟩ rfl (fun Hp9 lc9 Mz9 => ?_)
    have Mz9 : zM D A s.heap [(o, .inr (6, hsF ad lo)), (ad 8, .inr (0, [.int (kd), .ref rd, .int (nI (gd))]))] _ _ := Mz9
    refine lv_icmp_lt (tgt := 26) hx hb dX5_dieAt_12 (by decide) (fun c_2 => ?_) (fun c_2 => ?_)
    ·
      exact False.elim (by rcases hv9 with h | h <;> first | exact absurd h c_1 | exact absurd c_1 h | exact absurd h (Int32.not_lt.mpr c_1) | exact absurd (Int32.not_le.mp c_1) (Int32.not_lt.mpr h) | exact absurd c_1 (Int32.not_lt.mpr h) | exact absurd h c_2 | exact absurd c_2 h | exact absurd h (Int32.not_lt.mpr c_2) | exact absurd (Int32.not_le.mp c_2) (Int32.not_lt.mpr h) | exact absurd c_2 (Int32.not_lt.mpr h))
    ·
      exact z_throwW Z hW Mz9 hA hE hl9.1 hfl zThr_I hX9 (is := 311) (text := "no such die") (by decide +kernel) dX5_dieAt_15 dX5_dieAt_18 dX5_dieAt_19 dX5_dieAt_22 dX5_dieAt_25 (Nat.le_of_ble_eq_true rfl) (Nat.le_of_ble_eq_true rfl) ⟨Nat.le_of_ble_eq_true rfl, Nat.le_of_ble_eq_true rfl⟩ ⟨Nat.le_of_ble_eq_true rfl, Nat.le_of_ble_eq_true rfl⟩ rfl
set_option maxHeartbeats 4000000 in
set_option maxRecDepth 100000 in
theorem ch_steelAt (l : Launch) (D : va_G) (T : Nat → ClassId) (o : Nat) (ad : Nat → Nat) (lo : Int32) (fs : Nat → Option Nat) (u j : Nat) (hj : j < 4) (hf : fs j = some u) : ZR l yX5_steelAt wsX5_steelAt (zrm 0 0) D T (S := Unit) [(o, .inr (6, hsF ad lo)), (ad 1, .inl (T 4, 4, qa fs))] (fun _ => [(o, .inr (6, hsF ad lo)), (ad 1, .inl (T 4, 4, qa fs))]) [.ref o, .int (nI (j))] (fun _ => u) 0 0 := by
  refine z_inR (cc := cX5_steelAt) (maxL := 2) (rt := (.object "AnvilHouse$Steel")) (by decide +kernel) rfl (Nat.le_of_ble_eq_true rfl) (Or.inl ⟨_, rfl⟩) ?_
  intro p e s m args below meth c sl9 A Q Z hnm Mz9 hl9 hret
  have Z : zC p s m args c cX5_steelAt 2 RX5 wsX5_steelAt D T A := Z
  have hx := Z.1.1
  have hb := Z.1.2.1
  have hts := Z.1.2.2.2.2
  have hin5 : ∀ w ∈ wsX50, w ∈ wsX5_steelAt := by decide +kernel
  have L11 := hts (.fieldLink RX5 11 "AnvilHouse" "steels" "[LAnvilHouse$Steel;") (by decide +kernel)
  have hl9 : lv_has sl9 2 [(0, .ref o), (1, .int (nI (j)))] := hl9
  refine lv_iload_n hx hb dX5_steelAt_0 rfl (lv_at hl9 1 rfl) ?_
  refine zn_if_lt (a := j) (tgt := 9) (by omega) hx hb dX5_steelAt_1 (by decide) (fun h => absurd h (fun h => h)) (fun _ => ?_)
  refine lv_iload_n hx hb dX5_steelAt_4 rfl (lv_at hl9 1 rfl) ?_
  refine lv_iconst (v := 4) hx hb dX5_steelAt_5 (by decide) ?_
  refine zn_icmp_lt (a := j) (b := 4) (tgt := 20) (by omega) (by decide) hx hb dX5_steelAt_6 (by decide) (fun _ => ?_) (fun h => absurd h (by omega))
  refine lv_aload_n hx hb dX5_steelAt_20 rfl (lv_at hl9 0 rfl) ?_
  refine z_getf Z Mz9 hin5 0 rfl rfl 0 (by decide) L11 rfl (v := .ref (ad 1)) rfl dX5_steelAt_21 ?_
  refine lv_iload_n hx hb dX5_steelAt_24 rfl (lv_at hl9 1 rfl) ?_
  refine va_aldq hx hb Z.2.1 Mz9.1 1 4 (cA := T 4) (n := 4) (f := fs) rfl rfl (vp_in_nI (by omega) (by decide)) dX5_steelAt_25 ?_
  rw [nI_clamp (by omega), hf]
  exact hret _ _ _ _ _ sl9 u _ () Mz9 (rfl) rfl (Nat.le_of_ble_eq_true rfl) (Nat.le_of_ble_eq_true rfl) dX5_steelAt_26
set_option maxHeartbeats 4000000 in
set_option maxRecDepth 100000 in
theorem ch_steelAt_bad (l : Launch) (hfl : l.stackTraces = false) (D : va_G) (T : Nat → ClassId) (ea mi : Nat) (sa : Nat → Nat) (o : Nat) (ad : Nat → Nat) (lo : Int32) (v : Int32) (hv9 : v < 0 ∨ 4 ≤ v) : ZB l yX5_steelAt wsX5_steelAt (zrmc 6 82 1 6) (zW ea mi sa) D T [(o, .inr (6, hsF ad lo))] [.ref o, .int (v)] "java/lang/IndexOutOfBoundsException" := by
  refine z_inB (cc := cX5_steelAt) (maxL := 2) (ret := (some (.object "AnvilHouse$Steel"))) (by decide +kernel) rfl (Nat.le_of_ble_eq_true rfl) ?_
  intro p e s m args below meth c sl9 A hA Z hW Mz9 hl9 hE
  have Z : zC p s m args c cX5_steelAt 2 RX5 wsX5_steelAt D T A := Z
  have hx := Z.1.1
  have hb := Z.1.2.1
  have hts := Z.1.2.2.2.2
  have hin5 : ∀ w ∈ wsX50, w ∈ wsX5_steelAt := by decide +kernel
  have hX9 : ∀ w ∈ Cond.classLink RX5 85 "java/lang/IndexOutOfBoundsException" :: Cond.initialized "java/lang/IndexOutOfBoundsException" :: (vx_atS RX5 89 "java/lang/IndexOutOfBoundsException" zNm).filter goodWord, w ∈ wsX5_steelAt := by decide +kernel
  have L11 := hts (.fieldLink RX5 11 "AnvilHouse" "steels" "[LAnvilHouse$Steel;") (by decide +kernel)
  have hl9 : lv_has sl9 2 [(0, .ref o), (1, .int (v))] := hl9
  refine lv_iload_n hx hb dX5_steelAt_0 rfl (lv_at hl9 1 rfl) ?_
  refine lv_if_lt (tgt := 9) hx hb dX5_steelAt_1 (by decide) (fun c_1 => ?_) (fun c_1 => ?_)
  ·
    exact z_throwW Z hW Mz9 hA hE hl9.1 hfl zThr_I hX9 (is := 307) (text := "no such steel") (by decide +kernel) dX5_steelAt_9 dX5_steelAt_12 dX5_steelAt_13 dX5_steelAt_16 dX5_steelAt_19 (Nat.le_of_ble_eq_true rfl) (Nat.le_of_ble_eq_true rfl) ⟨Nat.le_of_ble_eq_true rfl, Nat.le_of_ble_eq_true rfl⟩ ⟨Nat.le_of_ble_eq_true rfl, Nat.le_of_ble_eq_true rfl⟩ rfl
  ·
    refine lv_iload_n hx hb dX5_steelAt_4 rfl (lv_at hl9 1 rfl) ?_
    refine lv_iconst (v := 4) hx hb dX5_steelAt_5 (by decide) ?_
    refine lv_icmp_lt (tgt := 20) hx hb dX5_steelAt_6 (by decide) (fun c_2 => ?_) (fun c_2 => ?_)
    ·
      exact False.elim (by rcases hv9 with h | h <;> first | exact absurd h c_1 | exact absurd c_1 h | exact absurd h (Int32.not_lt.mpr c_1) | exact absurd (Int32.not_le.mp c_1) (Int32.not_lt.mpr h) | exact absurd c_1 (Int32.not_lt.mpr h) | exact absurd h c_2 | exact absurd c_2 h | exact absurd h (Int32.not_lt.mpr c_2) | exact absurd (Int32.not_le.mp c_2) (Int32.not_lt.mpr h) | exact absurd c_2 (Int32.not_lt.mpr h))
    ·
      exact z_throwW Z hW Mz9 hA hE hl9.1 hfl zThr_I hX9 (is := 307) (text := "no such steel") (by decide +kernel) dX5_steelAt_9 dX5_steelAt_12 dX5_steelAt_13 dX5_steelAt_16 dX5_steelAt_19 (Nat.le_of_ble_eq_true rfl) (Nat.le_of_ble_eq_true rfl) ⟨Nat.le_of_ble_eq_true rfl, Nat.le_of_ble_eq_true rfl⟩ ⟨Nat.le_of_ble_eq_true rfl, Nat.le_of_ble_eq_true rfl⟩ rfl
