/-! ===== laid by program ===== -/
/-! ===== the house: the press ===== -/
set_option maxHeartbeats 4000000 in
set_option maxRecDepth 100000 in
theorem ch_press_crack (l : Launch) (D : va_G) (T : Nat → ClassId) (o : Nat) (ad : Nat → Nat) (lo : Int32) (kb : Int32) (rb n g : Nat) (fb : Nat → Option Nat) (h a q u : Nat) (β α κ τ : Nat → Int32) (i : Nat) (hi : i < g) (hg : g ≤ n) (hn : n ≤ 40000) (hf : fb i = some h) (kd : Int32) (rd nd gd : Nat) (fd : Nat → Option Nat) (d da : Nat) (lf : Int32) (γ : Nat → Int32) (i9 : Nat) (hi9 : i9 < gd) (hg9 : gd ≤ nd) (hn9 : nd ≤ 40000) (hf9 : fd i9 = some d) (en cn : Nat) (he1 : 1 ≤ en) (he2 : en ≤ 50) (h8 : β 8 = nI cn) (hcm : cn ≤ 1300) (hec : en * cn < 2 ^ 31) (h12 : β 12 = 0) (hlf : 0 < lf) (Bd : Nat) (hB : Bd < 2 ^ 30) (hfa : ∀ x, x < 8 → bnd Bd (α x)) (hga : ∀ x, x < 8 → bnd Bd (γ x)) (hcn : cn < 700) : ZI l yX5_press wsX5_press (zrm 4 93) D T [(o, .inr (6, hsF ad lo)), (ad 7, .inr (0, [.int (kb), .ref rb, .int (nI (g))])), (rb, .inl (T 3, n, qa fb)), (h, .inr (1, biF a q u β)), (a, .inl (T 0, 8, .inl α)), (q, .inl (T 0, 8, .inl κ)), (u, .inr (5, [.int (τ 0), .int (τ 1), .int (τ 2)])), (ad 8, .inr (0, [.int (kd), .ref rd, .int (nI (gd))])), (rd, .inl (T 3, nd, qa fd)), (d, .inr (2, [.ref da, .int (lf)])), (da, .inl (T 0, 8, .inl γ))] [(o, .inr (6, hsF ad lo)), (ad 7, .inr (0, [.int (kb), .ref rb, .int (nI (g))])), (rb, .inl (T 3, n, qa fb)), (h, .inr (1, biF a q u (upd β 12 1))), (a, .inl (T 0, 8, .inl α)), (q, .inl (T 0, 8, .inl κ)), (u, .inr (5, [.int (τ 0), .int (τ 1), .int (τ 2)])), (ad 8, .inr (0, [.int (kd), .ref rd, .int (nI (gd))])), (rd, .inl (T 3, nd, qa fd)), (d, .inr (2, [.ref da, .int (lf)])), (da, .inl (T 0, 8, .inl γ))] [.ref o, .int (nI (i)), .int (nI (i9)), .int (nI (en))] (-1) 0 0 := by
  refine z_inI (cc := cX5_press) (maxL := 6) (rt := .int) (by decide +kernel) rfl (Nat.le_of_ble_eq_true rfl) ?_
  intro p e s m args below meth c sl9 A Q Z hnm Mz9 hl9 hret
  have Z : zC p s m args c cX5_press 6 RX5 wsX5_press D T A := Z
  have hx := Z.1.1
  have hb := Z.1.2.1
  have hts := Z.1.2.2.2.2
  have hin5 : ∀ w ∈ wsX50, w ∈ wsX5_press := by decide +kernel
  have hinL : ∀ w ∈ wsJx4a65c0, w ∈ wsX5_press := by decide +kernel
  have hin0 : ∀ w ∈ wsX00, w ∈ wsX5_press := by decide +kernel
  have hin1 : ∀ w ∈ wsX10, w ∈ wsX5_press := by decide +kernel
  have L125 := hts (.fieldLink RX5 125 "AnvilHouse$Billet" "cracked" "Z") (by decide +kernel)
  have L208 := hts (.fieldLink RX5 208 "AnvilHouse$Die" "life" "I") (by decide +kernel)
  have hl9 : lv_has sl9 6 [(0, .ref o), (1, .int (nI (i))), (2, .int (nI (i9))), (3, .int (nI (en)))] := hl9
  refine lv_aload_n hx hb dX5_press_0 rfl (lv_at hl9 0 rfl) ?_
  refine lv_iload_n hx hb dX5_press_1 rfl (lv_at hl9 1 rfl) ?_
  refine z_callVr (As := [.int (nI (i))]) (rest := []) (wc := [(o, .inr (6, hsF ad lo)), (ad 7, .inr (0, [.int (kb), .ref rb, .int (nI (g))])), (rb, .inl (T 3, n, qa fb)), (h, .inr (1, biF a q u β))]) Z Mz9 (ch_billetAt l D T o ad lo kb rb n g fb h (biF a q u β) i hi hg hn hf) (cwV 1 hts gX5_press_X5_billetAt rfl rfl rfl (by decide +kernel) ⟨Nat.le_of_ble_eq_true rfl, Nat.le_of_ble_eq_true rfl⟩) [0, 1, 2, 3] rfl (by decide) (fun _ j hj => rfl) (fun _ => Nat.le_refl _) (va_recv Z.2.1 Mz9.1 (ci := 6) (q0 := 0) rfl rfl) rfl hl9.1 (Nat.le_of_ble_eq_true rfl) dX5_press_2 ⟨Nat.le_of_ble_eq_true rfl, Nat.le_of_ble_eq_true rfl⟩ rfl (fun _ Hp9 lc9 Mz9 => ?_)
  have Mz9 : zM D A s.heap [(o, .inr (6, hsF ad lo)), (ad 7, .inr (0, [.int (kb), .ref rb, .int (nI (g))])), (rb, .inl (T 3, n, qa fb)), (h, .inr (1, biF a q u β)), (a, .inl (T 0, 8, .inl α)), (q, .inl (T 0, 8, .inl κ)), (u, .inr (5, [.int (τ 0), .int (τ 1), .int (τ 2)])), (ad 8, .inr (0, [.int (kd), .ref rd, .int (nI (gd))])), (rd, .inl (T 3, nd, qa fd)), (d, .inr (2, [.ref da, .int (lf)])), (da, .inl (T 0, 8, .inl γ))] _ _ := Mz9
  refine lv_astore (lv' := [(4, .ref h), (0, .ref o), (1, .int (nI (i))), (2, .int (nI (i9))), (3, .int (nI (en)))]) hx hb dX5_press_5 hl9 (by decide) rfl (fun sl9 hl9 => ?_)
  refine lv_aload_n hx hb dX5_press_7 rfl (lv_at hl9 1 rfl) ?_
  refine lv_iload_n hx hb dX5_press_8 rfl (lv_at hl9 3 rfl) ?_
  refine z_callVr (As := [.int (nI (i9))]) (rest := []) (wc := [(o, .inr (6, hsF ad lo)), (ad 8, .inr (0, [.int (kd), .ref rd, .int (nI (gd))])), (rd, .inl (T 3, nd, qa fd)), (d, .inr (2, [.ref da, .int (lf)]))]) Z Mz9 (ch_dieAt l D T o ad lo kd rd nd gd fd d ([.ref da, .int (lf)]) i9 hi9 hg9 hn9 hf9) (cwV 1 hts gX5_press_X5_dieAt rfl rfl rfl (by decide +kernel) ⟨Nat.le_of_ble_eq_true rfl, Nat.le_of_ble_eq_true rfl⟩) [0, 7, 8, 9] rfl (by decide) (fun _ j hj => rfl) (fun _ => Nat.le_refl _) (va_recv Z.2.1 Mz9.1 (ci := 6) (q0 := 0) rfl rfl) rfl hl9.1 (Nat.le_of_ble_eq_true rfl) dX5_press_9 ⟨Nat.le_of_ble_eq_true rfl, Nat.le_of_ble_eq_true rfl⟩ rfl (fun _ Hp9 lc9 Mz9 => ?_)
  have Mz9 : zM D A s.heap [(o, .inr (6, hsF ad lo)), (ad 7, .inr (0, [.int (kb), .ref rb, .int (nI (g))])), (rb, .inl (T 3, n, qa fb)), (h, .inr (1, biF a q u β)), (a, .inl (T 0, 8, .inl α)), (q, .inl (T 0, 8, .inl κ)), (u, .inr (5, [.int (τ 0), .int (τ 1), .int (τ 2)])), (ad 8, .inr (0, [.int (kd), .ref rd, .int (nI (gd))])), (rd, .inl (T 3, nd, qa fd)), (d, .inr (2, [.ref da, .int (lf)])), (da, .inl (T 0, 8, .inl γ))] _ _ := Mz9
  refine lv_astore (lv' := [(5, .ref d), (4, .ref h), (0, .ref o), (1, .int (nI (i))), (2, .int (nI (i9))), (3, .int (nI (en)))]) hx hb dX5_press_12 hl9 (by decide) rfl (fun sl9 hl9 => ?_)
  refine lv_iload_n hx hb dX5_press_14 rfl (lv_at hl9 5 rfl) ?_
  refine lv_iconst (v := 1) hx hb dX5_press_15 (by decide) ?_
  refine zn_icmp_lt (a := en) (b := 1) (tgt := 25) (by omega) (by decide) hx hb dX5_press_16 (by decide) (fun h => absurd h (by omega)) (fun _ => ?_)
  refine lv_iload_n hx hb dX5_press_19 rfl (lv_at hl9 5 rfl) ?_
  refine lv_bipush (v := 50) hx hb dX5_press_20 (by decide) ?_
  refine zn_icmp_le (a := en) (b := 50) (tgt := 35) (by omega) (by decide) hx hb dX5_press_22 (by decide) (fun _ => ?_) (fun h => absurd h (by omega))
  refine lv_aload hx hb dX5_press_35 (lv_at hl9 1 rfl) ?_
  refine z_getf Z Mz9 hin0 3 rfl rfl 12 (by decide) L125 rfl (v := .int (β 12)) rfl dX5_press_37 ?_
  refine lv_if_eq (tgt := 53) hx hb dX5_press_40 (by decide) (fun _ => ?_) (fun h => absurd h (fun z => z h12))
  refine lv_aload hx hb dX5_press_53 (lv_at hl9 0 rfl) ?_
  refine z_getf Z Mz9 hin1 9 rfl rfl 1 (by decide) L208 rfl (v := .int (lf)) rfl dX5_press_55 ?_
  refine lv_if_gt (tgt := 71) hx hb dX5_press_58 (by decide) (fun _ => ?_) (fun h => absurd h (fun z => z hlf))
  refine lv_aload hx hb dX5_press_71 (lv_at hl9 1 rfl) ?_
  refine lv_aload hx hb dX5_press_73 (lv_at hl9 0 rfl) ?_
  refine lv_iload_n hx hb dX5_press_75 rfl (lv_at hl9 5 rfl) ?_
  refine z_callVi (As := [.ref d, .int (nI (en))]) (rest := []) (rv := (-1)) (wc := bidW h a q u d da T β α κ τ lf γ) (wc' := bidW h a q u d da T (upd β 12 1) α κ τ lf γ) Z Mz9 (cb_squeezeInto_crack l D T h a q u d da β α κ τ lf γ en cn h8 hec hcm Bd hB hfa hga hcn) (cwV 2 hts gX5_press_X0_squeezeInto rfl rfl rfl (by decide +kernel) ⟨Nat.le_of_ble_eq_true rfl, Nat.le_of_ble_eq_true rfl⟩) [3, 4, 5, 6, 9, 10] rfl (by decide) (fun j hj => rfl) (Nat.le_refl _) (va_recv Z.2.1 Mz9.1 (ci := 1) (q0 := 3) rfl rfl) rfl hl9.1 (Nat.le_of_ble_eq_true rfl) dX5_press_76 ⟨Nat.le_of_ble_eq_true rfl, Nat.le_of_ble_eq_true rfl⟩ rfl (fun Hp9 lc9 Mz9 => ?_)
  have Mz9 : zM D A s.heap [(o, .inr (6, hsF ad lo)), (ad 7, .inr (0, [.int (kb), .ref rb, .int (nI (g))])), (rb, .inl (T 3, n, qa fb)), (h, .inr (1, biF a q u (upd β 12 1))), (a, .inl (T 0, 8, .inl α)), (q, .inl (T 0, 8, .inl κ)), (u, .inr (5, [.int (τ 0), .int (τ 1), .int (τ 2)])), (ad 8, .inr (0, [.int (kd), .ref rd, .int (nI (gd))])), (rd, .inl (T 3, nd, qa fd)), (d, .inr (2, [.ref da, .int (lf)])), (da, .inl (T 0, 8, .inl γ))] _ _ := Mz9
  exact hret _ _ _ _ _ sl9 _ _ Mz9 (rfl) (rfl) (rfl) (Nat.le_of_ble_eq_true rfl) (Nat.le_of_ble_eq_true rfl) dX5_press_79
set_option maxHeartbeats 4000000 in
set_option maxRecDepth 100000 in
theorem ch_press_ok3z (l : Launch) (D : va_G) (T : Nat → ClassId) (o : Nat) (ad : Nat → Nat) (lo : Int32) (kb : Int32) (rb n g : Nat) (fb : Nat → Option Nat) (h a q u : Nat) (β α κ τ : Nat → Int32) (i : Nat) (hi : i < g) (hg : g ≤ n) (hn : n ≤ 40000) (hf : fb i = some h) (kd : Int32) (rd nd gd : Nat) (fd : Nat → Option Nat) (d da : Nat) (lf : Int32) (γ : Nat → Int32) (i9 : Nat) (hi9 : i9 < gd) (hg9 : gd ≤ nd) (hn9 : nd ≤ 40000) (hf9 : fd i9 = some d) (en cn : Nat) (he1 : 1 ≤ en) (he2 : en ≤ 50) (h8 : β 8 = nI cn) (hcm : cn ≤ 1300) (hec : en * cn < 2 ^ 31) (h12 : β 12 = 0) (hlf : 0 < lf) (Bd : Nat) (hB : Bd < 2 ^ 30) (hfa : ∀ x, x < 8 → bnd Bd (α x)) (hga : ∀ x, x < 8 → bnd Bd (γ x)) (hcn : 700 ≤ cn) (hc9 : cn < 900) (hz :  CL γ (FM γ (en * cn / 1000) α) = 0) : ZI l yX5_press wsX5_press (zrm 4 93) D T [(o, .inr (6, hsF ad lo)), (ad 7, .inr (0, [.int (kb), .ref rb, .int (nI (g))])), (rb, .inl (T 3, n, qa fb)), (h, .inr (1, biF a q u β)), (a, .inl (T 0, 8, .inl α)), (q, .inl (T 0, 8, .inl κ)), (u, .inr (5, [.int (τ 0), .int (τ 1), .int (τ 2)])), (ad 8, .inr (0, [.int (kd), .ref rd, .int (nI (gd))])), (rd, .inl (T 3, nd, qa fd)), (d, .inr (2, [.ref da, .int (lf)])), (da, .inl (T 0, 8, .inl γ))] [(o, .inr (6, hsF ad lo)), (ad 7, .inr (0, [.int (kb), .ref rb, .int (nI (g))])), (rb, .inl (T 3, n, qa fb)), (h, .inr (1, biF a q u (upd (upd (upd β 5 (KX γ (FM γ (en * cn / 1000) α) (β 5))) 7 (clS (β 7))) 8 (wrm (clS (β 7)) (β 8))))), (a, .inl (T 0, 8, .inl (KA γ (FM γ (en * cn / 1000) α)))), (q, .inl (T 0, 8, .inl κ)), (u, .inr (5, [.int (τ 0), .int (τ 1), .int (τ 2)])), (ad 8, .inr (0, [.int (kd), .ref rd, .int (nI (gd))])), (rd, .inl (T 3, nd, qa fd)), (d, .inr (2, [.ref da, .int (if 0 < lf - 3 then lf - 3 else 0)])), (da, .inl (T 0, 8, .inl γ))] [.ref o, .int (nI (i)), .int (nI (i9)), .int (nI (en))] (CL γ (FM γ (en * cn / 1000) α)) 0 0 := by
  refine z_inI (cc := cX5_press) (maxL := 6) (rt := .int) (by decide +kernel) rfl (Nat.le_of_ble_eq_true rfl) ?_
  intro p e s m args below meth c sl9 A Q Z hnm Mz9 hl9 hret
  have Z : zC p s m args c cX5_press 6 RX5 wsX5_press D T A := Z
  have hx := Z.1.1
  have hb := Z.1.2.1
  have hts := Z.1.2.2.2.2
  have hin5 : ∀ w ∈ wsX50, w ∈ wsX5_press := by decide +kernel
  have hinL : ∀ w ∈ wsJx4a65c0, w ∈ wsX5_press := by decide +kernel
  have hin0 : ∀ w ∈ wsX00, w ∈ wsX5_press := by decide +kernel
  have hin1 : ∀ w ∈ wsX10, w ∈ wsX5_press := by decide +kernel
  have L125 := hts (.fieldLink RX5 125 "AnvilHouse$Billet" "cracked" "Z") (by decide +kernel)
  have L208 := hts (.fieldLink RX5 208 "AnvilHouse$Die" "life" "I") (by decide +kernel)
  have hl9 : lv_has sl9 6 [(0, .ref o), (1, .int (nI (i))), (2, .int (nI (i9))), (3, .int (nI (en)))] := hl9
  refine lv_aload_n hx hb dX5_press_0 rfl (lv_at hl9 0 rfl) ?_
  refine lv_iload_n hx hb dX5_press_1 rfl (lv_at hl9 1 rfl) ?_
  refine z_callVr (As := [.int (nI (i))]) (rest := []) (wc := [(o, .inr (6, hsF ad lo)), (ad 7, .inr (0, [.int (kb), .ref rb, .int (nI (g))])), (rb, .inl (T 3, n, qa fb)), (h, .inr (1, biF a q u β))]) Z Mz9 (ch_billetAt l D T o ad lo kb rb n g fb h (biF a q u β) i hi hg hn hf) (cwV 1 hts gX5_press_X5_billetAt rfl rfl rfl (by decide +kernel) ⟨Nat.le_of_ble_eq_true rfl, Nat.le_of_ble_eq_true rfl⟩) [0, 1, 2, 3] rfl (by decide) (fun _ j hj => rfl) (fun _ => Nat.le_refl _) (va_recv Z.2.1 Mz9.1 (ci := 6) (q0 := 0) rfl rfl) rfl hl9.1 (Nat.le_of_ble_eq_true rfl) dX5_press_2 ⟨Nat.le_of_ble_eq_true rfl, Nat.le_of_ble_eq_true rfl⟩ rfl (fun _ Hp9 lc9 Mz9 => ?_)
  have Mz9 : zM D A s.heap [(o, .inr (6, hsF ad lo)), (ad 7, .inr (0, [.int (kb), .ref rb, .int (nI (g))])), (rb, .inl (T 3, n, qa fb)), (h, .inr (1, biF a q u β)), (a, .inl (T 0, 8, .inl α)), (q, .inl (T 0, 8, .inl κ)), (u, .inr (5, [.int (τ 0), .int (τ 1), .int (τ 2)])), (ad 8, .inr (0, [.int (kd), .ref rd, .int (nI (gd))])), (rd, .inl (T 3, nd, qa fd)), (d, .inr (2, [.ref da, .int (lf)])), (da, .inl (T 0, 8, .inl γ))] _ _ := Mz9
  refine lv_astore (lv' := [(4, .ref h), (0, .ref o), (1, .int (nI (i))), (2, .int (nI (i9))), (3, .int (nI (en)))]) hx hb dX5_press_5 hl9 (by decide) rfl (fun sl9 hl9 => ?_)
  refine lv_aload_n hx hb dX5_press_7 rfl (lv_at hl9 1 rfl) ?_
  refine lv_iload_n hx hb dX5_press_8 rfl (lv_at hl9 3 rfl) ?_
  refine z_callVr (As := [.int (nI (i9))]) (rest := []) (wc := [(o, .inr (6, hsF ad lo)), (ad 8, .inr (0, [.int (kd), .ref rd, .int (nI (gd))])), (rd, .inl (T 3, nd, qa fd)), (d, .inr (2, [.ref da, .int (lf)]))]) Z Mz9 (ch_dieAt l D T o ad lo kd rd nd gd fd d ([.ref da, .int (lf)]) i9 hi9 hg9 hn9 hf9) (cwV 1 hts gX5_press_X5_dieAt rfl rfl rfl (by decide +kernel) ⟨Nat.le_of_ble_eq_true rfl, Nat.le_of_ble_eq_true rfl⟩) [0, 7, 8, 9] rfl (by decide) (fun _ j hj => rfl) (fun _ => Nat.le_refl _) (va_recv Z.2.1 Mz9.1 (ci := 6) (q0 := 0) rfl rfl) rfl hl9.1 (Nat.le_of_ble_eq_true rfl) dX5_press_9 ⟨Nat.le_of_ble_eq_true rfl, Nat.le_of_ble_eq_true rfl⟩ rfl (fun _ Hp9 lc9 Mz9 => ?_)
  have Mz9 : zM D A s.heap [(o, .inr (6, hsF ad lo)), (ad 7, .inr (0, [.int (kb), .ref rb, .int (nI (g))])), (rb, .inl (T 3, n, qa fb)), (h, .inr (1, biF a q u β)), (a, .inl (T 0, 8, .inl α)), (q, .inl (T 0, 8, .inl κ)), (u, .inr (5, [.int (τ 0), .int (τ 1), .int (τ 2)])), (ad 8, .inr (0, [.int (kd), .ref rd, .int (nI (gd))])), (rd, .inl (T 3, nd, qa fd)), (d, .inr (2, [.ref da, .int (lf)])), (da, .inl (T 0, 8, .inl γ))] _ _ := Mz9
  refine lv_astore (lv' := [(5, .ref d), (4, .ref h), (0, .ref o), (1, .int (nI (i))), (2, .int (nI (i9))), (3, .int (nI (en)))]) hx hb dX5_press_12 hl9 (by decide) rfl (fun sl9 hl9 => ?_)
  refine lv_iload_n hx hb dX5_press_14 rfl (lv_at hl9 5 rfl) ?_
  refine lv_iconst (v := 1) hx hb dX5_press_15 (by decide) ?_
  refine zn_icmp_lt (a := en) (b := 1) (tgt := 25) (by omega) (by decide) hx hb dX5_press_16 (by decide) (fun h => absurd h (by omega)) (fun _ => ?_)
  refine lv_iload_n hx hb dX5_press_19 rfl (lv_at hl9 5 rfl) ?_
  refine lv_bipush (v := 50) hx hb dX5_press_20 (by decide) ?_
  refine zn_icmp_le (a := en) (b := 50) (tgt := 35) (by omega) (by decide) hx hb dX5_press_22 (by decide) (fun _ => ?_) (fun h => absurd h (by omega))
  refine lv_aload hx hb dX5_press_35 (lv_at hl9 1 rfl) ?_
  refine z_getf Z Mz9 hin0 3 rfl rfl 12 (by decide) L125 rfl (v := .int (β 12)) rfl dX5_press_37 ?_
  refine lv_if_eq (tgt := 53) hx hb dX5_press_40 (by decide) (fun _ => ?_) (fun h => absurd h (fun z => z h12))
  refine lv_aload hx hb dX5_press_53 (lv_at hl9 0 rfl) ?_
  refine z_getf Z Mz9 hin1 9 rfl rfl 1 (by decide) L208 rfl (v := .int (lf)) rfl dX5_press_55 ?_
  refine lv_if_gt (tgt := 71) hx hb dX5_press_58 (by decide) (fun _ => ?_) (fun h => absurd h (fun z => z hlf))
  refine lv_aload hx hb dX5_press_71 (lv_at hl9 1 rfl) ?_
  refine lv_aload hx hb dX5_press_73 (lv_at hl9 0 rfl) ?_
  refine lv_iload_n hx hb dX5_press_75 rfl (lv_at hl9 5 rfl) ?_
  refine z_callVi (As := [.ref d, .int (nI (en))]) (rest := []) (rv := CL γ (FM γ (en * cn / 1000) α)) (wc := bidW h a q u d da T β α κ τ lf γ) (wc' := bidW h a q u d da T (upd (upd (upd β 5 (KX γ (FM γ (en * cn / 1000) α) (β 5))) 7 (clS (β 7))) 8 (wrm (clS (β 7)) (β 8))) (KA γ (FM γ (en * cn / 1000) α)) κ τ (if 0 < lf - 3 then lf - 3 else 0) γ) Z Mz9 (cb_squeezeInto_ok3z l D T h a q u d da β α κ τ lf γ en cn h8 hec hcm Bd hB hfa hga hcn hc9 hz) (cwV 2 hts gX5_press_X0_squeezeInto rfl rfl rfl (by decide +kernel) ⟨Nat.le_of_ble_eq_true rfl, Nat.le_of_ble_eq_true rfl⟩) [3, 4, 5, 6, 9, 10] rfl (by decide) (fun j hj => rfl) (Nat.le_refl _) (va_recv Z.2.1 Mz9.1 (ci := 1) (q0 := 3) rfl rfl) rfl hl9.1 (Nat.le_of_ble_eq_true rfl) dX5_press_76 ⟨Nat.le_of_ble_eq_true rfl, Nat.le_of_ble_eq_true rfl⟩ rfl (fun Hp9 lc9 Mz9 => ?_)
  have Mz9 : zM D A s.heap [(o, .inr (6, hsF ad lo)), (ad 7, .inr (0, [.int (kb), .ref rb, .int (nI (g))])), (rb, .inl (T 3, n, qa fb)), (h, .inr (1, biF a q u (upd (upd (upd β 5 (KX γ (FM γ (en * cn / 1000) α) (β 5))) 7 (clS (β 7))) 8 (wrm (clS (β 7)) (β 8))))), (a, .inl (T 0, 8, .inl (KA γ (FM γ (en * cn / 1000) α)))), (q, .inl (T 0, 8, .inl κ)), (u, .inr (5, [.int (τ 0), .int (τ 1), .int (τ 2)])), (ad 8, .inr (0, [.int (kd), .ref rd, .int (nI (gd))])), (rd, .inl (T 3, nd, qa fd)), (d, .inr (2, [.ref da, .int (if 0 < lf - 3 then lf - 3 else 0)])), (da, .inl (T 0, 8, .inl γ))] _ _ := Mz9
  exact hret _ _ _ _ _ sl9 _ _ Mz9 (rfl) (rfl) (rfl) (Nat.le_of_ble_eq_true rfl) (Nat.le_of_ble_eq_true rfl) dX5_press_79
set_option maxHeartbeats 4000000 in
set_option maxRecDepth 100000 in
theorem ch_press_ok3n (l : Launch) (D : va_G) (T : Nat → ClassId) (o : Nat) (ad : Nat → Nat) (lo : Int32) (kb : Int32) (rb n g : Nat) (fb : Nat → Option Nat) (h a q u : Nat) (β α κ τ : Nat → Int32) (i : Nat) (hi : i < g) (hg : g ≤ n) (hn : n ≤ 40000) (hf : fb i = some h) (kd : Int32) (rd nd gd : Nat) (fd : Nat → Option Nat) (d da : Nat) (lf : Int32) (γ : Nat → Int32) (i9 : Nat) (hi9 : i9 < gd) (hg9 : gd ≤ nd) (hn9 : nd ≤ 40000) (hf9 : fd i9 = some d) (en cn : Nat) (he1 : 1 ≤ en) (he2 : en ≤ 50) (h8 : β 8 = nI cn) (hcm : cn ≤ 1300) (hec : en * cn < 2 ^ 31) (h12 : β 12 = 0) (hlf : 0 < lf) (Bd : Nat) (hB : Bd < 2 ^ 30) (hfa : ∀ x, x < 8 → bnd Bd (α x)) (hga : ∀ x, x < 8 → bnd Bd (γ x)) (hcn : 700 ≤ cn) (hc9 : cn < 900) (hz : ¬ CL γ (FM γ (en * cn / 1000) α) = 0) : ZI l yX5_press wsX5_press (zrm 4 93) D T [(o, .inr (6, hsF ad lo)), (ad 7, .inr (0, [.int (kb), .ref rb, .int (nI (g))])), (rb, .inl (T 3, n, qa fb)), (h, .inr (1, biF a q u β)), (a, .inl (T 0, 8, .inl α)), (q, .inl (T 0, 8, .inl κ)), (u, .inr (5, [.int (τ 0), .int (τ 1), .int (τ 2)])), (ad 8, .inr (0, [.int (kd), .ref rd, .int (nI (gd))])), (rd, .inl (T 3, nd, qa fd)), (d, .inr (2, [.ref da, .int (lf)])), (da, .inl (T 0, 8, .inl γ))] [(o, .inr (6, hsF ad lo)), (ad 7, .inr (0, [.int (kb), .ref rb, .int (nI (g))])), (rb, .inl (T 3, n, qa fb)), (h, .inr (1, biF a q u (upd (upd β 7 (clS (β 7))) 8 (wrm (clS (β 7)) (β 8))))), (a, .inl (T 0, 8, .inl (FM γ (en * cn / 1000) α))), (q, .inl (T 0, 8, .inl κ)), (u, .inr (5, [.int (τ 0), .int (τ 1), .int (τ 2)])), (ad 8, .inr (0, [.int (kd), .ref rd, .int (nI (gd))])), (rd, .inl (T 3, nd, qa fd)), (d, .inr (2, [.ref da, .int (if 0 < lf - 3 then lf - 3 else 0)])), (da, .inl (T 0, 8, .inl γ))] [.ref o, .int (nI (i)), .int (nI (i9)), .int (nI (en))] (CL γ (FM γ (en * cn / 1000) α)) 0 0 := by
  refine z_inI (cc := cX5_press) (maxL := 6) (rt := .int) (by decide +kernel) rfl (Nat.le_of_ble_eq_true rfl) ?_
  intro p e s m args below meth c sl9 A Q Z hnm Mz9 hl9 hret
  have Z : zC p s m args c cX5_press 6 RX5 wsX5_press D T A := Z
  have hx := Z.1.1
  have hb := Z.1.2.1
  have hts := Z.1.2.2.2.2
  have hin5 : ∀ w ∈ wsX50, w ∈ wsX5_press := by decide +kernel
  have hinL : ∀ w ∈ wsJx4a65c0, w ∈ wsX5_press := by decide +kernel
  have hin0 : ∀ w ∈ wsX00, w ∈ wsX5_press := by decide +kernel
  have hin1 : ∀ w ∈ wsX10, w ∈ wsX5_press := by decide +kernel
  have L125 := hts (.fieldLink RX5 125 "AnvilHouse$Billet" "cracked" "Z") (by decide +kernel)
  have L208 := hts (.fieldLink RX5 208 "AnvilHouse$Die" "life" "I") (by decide +kernel)
  have hl9 : lv_has sl9 6 [(0, .ref o), (1, .int (nI (i))), (2, .int (nI (i9))), (3, .int (nI (en)))] := hl9
  refine lv_aload_n hx hb dX5_press_0 rfl (lv_at hl9 0 rfl) ?_
  refine lv_iload_n hx hb dX5_press_1 rfl (lv_at hl9 1 rfl) ?_
  refine z_callVr (As := [.int (nI (i))]) (rest := []) (wc := [(o, .inr (6, hsF ad lo)), (ad 7, .inr (0, [.int (kb), .ref rb, .int (nI (g))])), (rb, .inl (T 3, n, qa fb)), (h, .inr (1, biF a q u β))]) Z Mz9 (ch_billetAt l D T o ad lo kb rb n g fb h (biF a q u β) i hi hg hn hf) (cwV 1 hts gX5_press_X5_billetAt rfl rfl rfl (by decide +kernel) ⟨Nat.le_of_ble_eq_true rfl, Nat.le_of_ble_eq_true rfl⟩) [0, 1, 2, 3] rfl (by decide) (fun _ j hj => rfl) (fun _ => Nat.le_refl _) (va_recv Z.2.1 Mz9.1 (ci := 6) (q0 := 0) rfl rfl) rfl hl9.1 (Nat.le_of_ble_eq_true rfl) dX5_press_2 ⟨Nat.le_of_ble_eq_true rfl, Nat.le_of_ble_eq_true rfl⟩ rfl (fun _ Hp9 lc9 Mz9 => ?_)
  have Mz9 : zM D A s.heap [(o, .inr (6, hsF ad lo)), (ad 7, .inr (0, [.int (kb), .ref rb, .int (nI (g))])), (rb, .inl (T 3, n, qa fb)), (h, .inr (1, biF a q u β)), (a, .inl (T 0, 8, .inl α)), (q, .inl (T 0, 8, .inl κ)), (u, .inr (5, [.int (τ 0), .int (τ 1), .int (τ 2)])), (ad 8, .inr (0, [.int (kd), .ref rd, .int (nI (gd))])), (rd, .inl (T 3, nd, qa fd)), (d, .inr (2, [.ref da, .int (lf)])), (da, .inl (T 0, 8, .inl γ))] _ _ := Mz9
  refine lv_astore (lv' := [(4, .ref h), (0, .ref o), (1, .int (nI (i))), (2, .int (nI (i9))), (3, .int (nI (en)))]) hx hb dX5_press_5 hl9 (by decide) rfl (fun sl9 hl9 => ?_)
  refine lv_aload_n hx hb dX5_press_7 rfl (lv_at hl9 1 rfl) ?_
  refine lv_iload_n hx hb dX5_press_8 rfl (lv_at hl9 3 rfl) ?_
  refine z_callVr (As := [.int (nI (i9))]) (rest := []) (wc := [(o, .inr (6, hsF ad lo)), (ad 8, .inr (0, [.int (kd), .ref rd, .int (nI (gd))])), (rd, .inl (T 3, nd, qa fd)), (d, .inr (2, [.ref da, .int (lf)]))]) Z Mz9 (ch_dieAt l D T o ad lo kd rd nd gd fd d ([.ref da, .int (lf)]) i9 hi9 hg9 hn9 hf9) (cwV 1 hts gX5_press_X5_dieAt rfl rfl rfl (by decide +kernel) ⟨Nat.le_of_ble_eq_true rfl, Nat.le_of_ble_eq_true rfl⟩) [0, 7, 8, 9] rfl (by decide) (fun _ j hj => rfl) (fun _ => Nat.le_refl _) (va_recv Z.2.1 Mz9.1 (ci := 6) (q0 := 0) rfl rfl) rfl hl9.1 (Nat.le_of_ble_eq_true rfl) dX5_press_9 ⟨Nat.le_of_ble_eq_true rfl, Nat.le_of_ble_eq_true rfl⟩ rfl (fun _ Hp9 lc9 Mz9 => ?_)
  have Mz9 : zM D A s.heap [(o, .inr (6, hsF ad lo)), (ad 7, .inr (0, [.int (kb), .ref rb, .int (nI (g))])), (rb, .inl (T 3, n, qa fb)), (h, .inr (1, biF a q u β)), (a, .inl (T 0, 8, .inl α)), (q, .inl (T 0, 8, .inl κ)), (u, .inr (5, [.int (τ 0), .int (τ 1), .int (τ 2)])), (ad 8, .inr (0, [.int (kd), .ref rd, .int (nI (gd))])), (rd, .inl (T 3, nd, qa fd)), (d, .inr (2, [.ref da, .int (lf)])), (da, .inl (T 0, 8, .inl γ))] _ _ := Mz9
  refine lv_astore (lv' := [(5, .ref d), (4, .ref h), (0, .ref o), (1, .int (nI (i))), (2, .int (nI (i9))), (3, .int (nI (en)))]) hx hb dX5_press_12 hl9 (by decide) rfl (fun sl9 hl9 => ?_)
  refine lv_iload_n hx hb dX5_press_14 rfl (lv_at hl9 5 rfl) ?_
  refine lv_iconst (v := 1) hx hb dX5_press_15 (by decide) ?_
  refine zn_icmp_lt (a := en) (b := 1) (tgt := 25) (by omega) (by decide) hx hb dX5_press_16 (by decide) (fun h => absurd h (by omega)) (fun _ => ?_)
  refine lv_iload_n hx hb dX5_press_19 rfl (lv_at hl9 5 rfl) ?_
  refine lv_bipush (v := 50) hx hb dX5_press_20 (by decide) ?_
  refine zn_icmp_le (a := en) (b := 50) (tgt := 35) (by omega) (by decide) hx hb dX5_press_22 (by decide) (fun _ => ?_) (fun h => absurd h (by omega))
  refine lv_aload hx hb dX5_press_35 (lv_at hl9 1 rfl) ?_
  refine z_getf Z Mz9 hin0 3 rfl rfl 12 (by decide) L125 rfl (v := .int (β 12)) rfl dX5_press_37 ?_
  refine lv_if_eq (tgt := 53) hx hb dX5_press_40 (by decide) (fun _ => ?_) (fun h => absurd h (fun z => z h12))
  refine lv_aload hx hb dX5_press_53 (lv_at hl9 0 rfl) ?_
  refine z_getf Z Mz9 hin1 9 rfl rfl 1 (by decide) L208 rfl (v := .int (lf)) rfl dX5_press_55 ?_
  refine lv_if_gt (tgt := 71) hx hb dX5_press_58 (by decide) (fun _ => ?_) (fun h => absurd h (fun z => z hlf))
  refine lv_aload hx hb dX5_press_71 (lv_at hl9 1 rfl) ?_
  refine lv_aload hx hb dX5_press_73 (lv_at hl9 0 rfl) ?_
  refine lv_iload_n hx hb dX5_press_75 rfl (lv_at hl9 5 rfl) ?_
  refine z_callVi (As := [.ref d, .int (nI (en))]) (rest := []) (rv := CL γ (FM γ (en * cn / 1000) α)) (wc := bidW h a q u d da T β α κ τ lf γ) (wc' := bidW h a q u d da T (upd (upd β 7 (clS (β 7))) 8 (wrm (clS (β 7)) (β 8))) (FM γ (en * cn / 1000) α) κ τ (if 0 < lf - 3 then lf - 3 else 0) γ) Z Mz9 (cb_squeezeInto_ok3n l D T h a q u d da β α κ τ lf γ en cn h8 hec hcm Bd hB hfa hga hcn hc9 hz) (cwV 2 hts gX5_press_X0_squeezeInto rfl rfl rfl (by decide +kernel) ⟨Nat.le_of_ble_eq_true rfl, Nat.le_of_ble_eq_true rfl⟩) [3, 4, 5, 6, 9, 10] rfl (by decide) (fun j hj => rfl) (Nat.le_refl _) (va_recv Z.2.1 Mz9.1 (ci := 1) (q0 := 3) rfl rfl) rfl hl9.1 (Nat.le_of_ble_eq_true rfl) dX5_press_76 ⟨Nat.le_of_ble_eq_true rfl, Nat.le_of_ble_eq_true rfl⟩ rfl (fun Hp9 lc9 Mz9 => ?_)
  have Mz9 : zM D A s.heap [(o, .inr (6, hsF ad lo)), (ad 7, .inr (0, [.int (kb), .ref rb, .int (nI (g))])), (rb, .inl (T 3, n, qa fb)), (h, .inr (1, biF a q u (upd (upd β 7 (clS (β 7))) 8 (wrm (clS (β 7)) (β 8))))), (a, .inl (T 0, 8, .inl (FM γ (en * cn / 1000) α))), (q, .inl (T 0, 8, .inl κ)), (u, .inr (5, [.int (τ 0), .int (τ 1), .int (τ 2)])), (ad 8, .inr (0, [.int (kd), .ref rd, .int (nI (gd))])), (rd, .inl (T 3, nd, qa fd)), (d, .inr (2, [.ref da, .int (if 0 < lf - 3 then lf - 3 else 0)])), (da, .inl (T 0, 8, .inl γ))] _ _ := Mz9
  exact hret _ _ _ _ _ sl9 _ _ Mz9 (rfl) (rfl) (rfl) (Nat.le_of_ble_eq_true rfl) (Nat.le_of_ble_eq_true rfl) dX5_press_79
set_option maxHeartbeats 4000000 in
set_option maxRecDepth 100000 in
theorem ch_press_ok1z (l : Launch) (D : va_G) (T : Nat → ClassId) (o : Nat) (ad : Nat → Nat) (lo : Int32) (kb : Int32) (rb n g : Nat) (fb : Nat → Option Nat) (h a q u : Nat) (β α κ τ : Nat → Int32) (i : Nat) (hi : i < g) (hg : g ≤ n) (hn : n ≤ 40000) (hf : fb i = some h) (kd : Int32) (rd nd gd : Nat) (fd : Nat → Option Nat) (d da : Nat) (lf : Int32) (γ : Nat → Int32) (i9 : Nat) (hi9 : i9 < gd) (hg9 : gd ≤ nd) (hn9 : nd ≤ 40000) (hf9 : fd i9 = some d) (en cn : Nat) (he1 : 1 ≤ en) (he2 : en ≤ 50) (h8 : β 8 = nI cn) (hcm : cn ≤ 1300) (hec : en * cn < 2 ^ 31) (h12 : β 12 = 0) (hlf : 0 < lf) (Bd : Nat) (hB : Bd < 2 ^ 30) (hfa : ∀ x, x < 8 → bnd Bd (α x)) (hga : ∀ x, x < 8 → bnd Bd (γ x)) (hcn : 700 ≤ cn) (hc9 : 900 ≤ cn) (hz :  CL γ (FM γ (en * cn / 1000) α) = 0) : ZI l yX5_press wsX5_press (zrm 4 93) D T [(o, .inr (6, hsF ad lo)), (ad 7, .inr (0, [.int (kb), .ref rb, .int (nI (g))])), (rb, .inl (T 3, n, qa fb)), (h, .inr (1, biF a q u β)), (a, .inl (T 0, 8, .inl α)), (q, .inl (T 0, 8, .inl κ)), (u, .inr (5, [.int (τ 0), .int (τ 1), .int (τ 2)])), (ad 8, .inr (0, [.int (kd), .ref rd, .int (nI (gd))])), (rd, .inl (T 3, nd, qa fd)), (d, .inr (2, [.ref da, .int (lf)])), (da, .inl (T 0, 8, .inl γ))] [(o, .inr (6, hsF ad lo)), (ad 7, .inr (0, [.int (kb), .ref rb, .int (nI (g))])), (rb, .inl (T 3, n, qa fb)), (h, .inr (1, biF a q u (upd (upd (upd β 5 (KX γ (FM γ (en * cn / 1000) α) (β 5))) 7 (clS (β 7))) 8 (wrm (clS (β 7)) (β 8))))), (a, .inl (T 0, 8, .inl (KA γ (FM γ (en * cn / 1000) α)))), (q, .inl (T 0, 8, .inl κ)), (u, .inr (5, [.int (τ 0), .int (τ 1), .int (τ 2)])), (ad 8, .inr (0, [.int (kd), .ref rd, .int (nI (gd))])), (rd, .inl (T 3, nd, qa fd)), (d, .inr (2, [.ref da, .int (if 0 < lf - 1 then lf - 1 else 0)])), (da, .inl (T 0, 8, .inl γ))] [.ref o, .int (nI (i)), .int (nI (i9)), .int (nI (en))] (CL γ (FM γ (en * cn / 1000) α)) 0 0 := by
  refine z_inI (cc := cX5_press) (maxL := 6) (rt := .int) (by decide +kernel) rfl (Nat.le_of_ble_eq_true rfl) ?_
  intro p e s m args below meth c sl9 A Q Z hnm Mz9 hl9 hret
  have Z : zC p s m args c cX5_press 6 RX5 wsX5_press D T A := Z
  have hx := Z.1.1
  have hb := Z.1.2.1
  have hts := Z.1.2.2.2.2
  have hin5 : ∀ w ∈ wsX50, w ∈ wsX5_press := by decide +kernel
  have hinL : ∀ w ∈ wsJx4a65c0, w ∈ wsX5_press := by decide +kernel
  have hin0 : ∀ w ∈ wsX00, w ∈ wsX5_press := by decide +kernel
  have hin1 : ∀ w ∈ wsX10, w ∈ wsX5_press := by decide +kernel
  have L125 := hts (.fieldLink RX5 125 "AnvilHouse$Billet" "cracked" "Z") (by decide +kernel)
  have L208 := hts (.fieldLink RX5 208 "AnvilHouse$Die" "life" "I") (by decide +kernel)
  have hl9 : lv_has sl9 6 [(0, .ref o), (1, .int (nI (i))), (2, .int (nI (i9))), (3, .int (nI (en)))] := hl9
  refine lv_aload_n hx hb dX5_press_0 rfl (lv_at hl9 0 rfl) ?_
  refine lv_iload_n hx hb dX5_press_1 rfl (lv_at hl9 1 rfl) ?_
  refine z_callVr (As := [.int (nI (i))]) (rest := []) (wc := [(o, .inr (6, hsF ad lo)), (ad 7, .inr (0, [.int (kb), .ref rb, .int (nI (g))])), (rb, .inl (T 3, n, qa fb)), (h, .inr (1, biF a q u β))]) Z Mz9 (ch_billetAt l D T o ad lo kb rb n g fb h (biF a q u β) i hi hg hn hf) (cwV 1 hts gX5_press_X5_billetAt rfl rfl rfl (by decide +kernel) ⟨Nat.le_of_ble_eq_true rfl, Nat.le_of_ble_eq_true rfl⟩) [0, 1, 2, 3] rfl (by decide) (fun _ j hj => rfl) (fun _ => Nat.le_refl _) (va_recv Z.2.1 Mz9.1 (ci := 6) (q0 := 0) rfl rfl) rfl hl9.1 (Nat.le_of_ble_eq_true rfl) dX5_press_2 ⟨Nat.le_of_ble_eq_true rfl, Nat.le_of_ble_eq_true rfl⟩ rfl (fun _ Hp9 lc9 Mz9 => ?_)
  have Mz9 : zM D A s.heap [(o, .inr (6, hsF ad lo)), (ad 7, .inr (0, [.int (kb), .ref rb, .int (nI (g))])), (rb, .inl (T 3, n, qa fb)), (h, .inr (1, biF a q u β)), (a, .inl (T 0, 8, .inl α)), (q, .inl (T 0, 8, .inl κ)), (u, .inr (5, [.int (τ 0), .int (τ 1), .int (τ 2)])), (ad 8, .inr (0, [.int (kd), .ref rd, .int (nI (gd))])), (rd, .inl (T 3, nd, qa fd)), (d, .inr (2, [.ref da, .int (lf)])), (da, .inl (T 0, 8, .inl γ))] _ _ := Mz9
  refine lv_astore (lv' := [(4, .ref h), (0, .ref o), (1, .int (nI (i))), (2, .int (nI (i9))), (3, .int (nI (en)))]) hx hb dX5_press_5 hl9 (by decide) rfl (fun sl9 hl9 => ?_)
  refine lv_aload_n hx hb dX5_press_7 rfl (lv_at hl9 1 rfl) ?_
  refine lv_iload_n hx hb dX5_press_8 rfl (lv_at hl9 3 rfl) ?_
  refine z_callVr (As := [.int (nI (i9))]) (rest := []) (wc := [(o, .inr (6, hsF ad lo)), (ad 8, .inr (0, [.int (kd), .ref rd, .int (nI (gd))])), (rd, .inl (T 3, nd, qa fd)), (d, .inr (2, [.ref da, .int (lf)]))]) Z Mz9 (ch_dieAt l D T o ad lo kd rd nd gd fd d ([.ref da, .int (lf)]) i9 hi9 hg9 hn9 hf9) (cwV 1 hts gX5_press_X5_dieAt rfl rfl rfl (by decide +kernel) ⟨Nat.le_of_ble_eq_true rfl, Nat.le_of_ble_eq_true rfl⟩) [0, 7, 8, 9] rfl (by decide) (fun _ j hj => rfl) (fun _ => Nat.le_refl _) (va_recv Z.2.1 Mz9.1 (ci := 6) (q0 := 0) rfl rfl) rfl hl9.1 (Nat.le_of_ble_eq_true rfl) dX5_press_9 ⟨Nat.le_of_ble_eq_true rfl, Nat.le_of_ble_eq_true rfl⟩ rfl (fun _ Hp9 lc9 Mz9 => ?_)
  have Mz9 : zM D A s.heap [(o, .inr (6, hsF ad lo)), (ad 7, .inr (0, [.int (kb), .ref rb, .int (nI (g))])), (rb, .inl (T 3, n, qa fb)), (h, .inr (1, biF a q u β)), (a, .inl (T 0, 8, .inl α)), (q, .inl (T 0, 8, .inl κ)), (u, .inr (5, [.int (τ 0), .int (τ 1), .int (τ 2)])), (ad 8, .inr (0, [.int (kd), .ref rd, .int (nI (gd))])), (rd, .inl (T 3, nd, qa fd)), (d, .inr (2, [.ref da, .int (lf)])), (da, .inl (T 0, 8, .inl γ))] _ _ := Mz9
  refine lv_astore (lv' := [(5, .ref d), (4, .ref h), (0, .ref o), (1, .int (nI (i))), (2, .int (nI (i9))), (3, .int (nI (en)))]) hx hb dX5_press_12 hl9 (by decide) rfl (fun sl9 hl9 => ?_)
  refine lv_iload_n hx hb dX5_press_14 rfl (lv_at hl9 5 rfl) ?_
  refine lv_iconst (v := 1) hx hb dX5_press_15 (by decide) ?_
  refine zn_icmp_lt (a := en) (b := 1) (tgt := 25) (by omega) (by decide) hx hb dX5_press_16 (by decide) (fun h => absurd h (by omega)) (fun _ => ?_)
  refine lv_iload_n hx hb dX5_press_19 rfl (lv_at hl9 5 rfl) ?_
  refine lv_bipush (v := 50) hx hb dX5_press_20 (by decide) ?_
  refine zn_icmp_le (a := en) (b := 50) (tgt := 35) (by omega) (by decide) hx hb dX5_press_22 (by decide) (fun _ => ?_) (fun h => absurd h (by omega))
  refine lv_aload hx hb dX5_press_35 (lv_at hl9 1 rfl) ?_
  refine z_getf Z Mz9 hin0 3 rfl rfl 12 (by decide) L125 rfl (v := .int (β 12)) rfl dX5_press_37 ?_
  refine lv_if_eq (tgt := 53) hx hb dX5_press_40 (by decide) (fun _ => ?_) (fun h => absurd h (fun z => z h12))
  refine lv_aload hx hb dX5_press_53 (lv_at hl9 0 rfl) ?_
  refine z_getf Z Mz9 hin1 9 rfl rfl 1 (by decide) L208 rfl (v := .int (lf)) rfl dX5_press_55 ?_
  refine lv_if_gt (tgt := 71) hx hb dX5_press_58 (by decide) (fun _ => ?_) (fun h => absurd h (fun z => z hlf))
  refine lv_aload hx hb dX5_press_71 (lv_at hl9 1 rfl) ?_
  refine lv_aload hx hb dX5_press_73 (lv_at hl9 0 rfl) ?_
  refine lv_iload_n hx hb dX5_press_75 rfl (lv_at hl9 5 rfl) ?_
  refine z_callVi (As := [.ref d, .int (nI (en))]) (rest := []) (rv := CL γ (FM γ (en * cn / 1000) α)) (wc := bidW h a q u d da T β α κ τ lf γ) (wc' := bidW h a q u d da T (upd (upd (upd β 5 (KX γ (FM γ (en * cn / 1000) α) (β 5))) 7 (clS (β 7))) 8 (wrm (clS (β 7)) (β 8))) (KA γ (FM γ (en * cn / 1000) α)) κ τ (if 0 < lf - 1 then lf - 1 else 0) γ) Z Mz9 (cb_squeezeInto_ok1z l D T h a q u d da β α κ τ lf γ en cn h8 hec hcm Bd hB hfa hga hcn hc9 hz) (cwV 2 hts gX5_press_X0_squeezeInto rfl rfl rfl (by decide +kernel) ⟨Nat.le_of_ble_eq_true rfl, Nat.le_of_ble_eq_true rfl⟩) [3, 4, 5, 6, 9, 10] rfl (by decide) (fun j hj => rfl) (Nat.le_refl _) (va_recv Z.2.1 Mz9.1 (ci := 1) (q0 := 3) rfl rfl) rfl hl9.1 (Nat.le_of_ble_eq_true rfl) dX5_press_76 ⟨Nat.le_of_ble_eq_true rfl, Nat.le_of_ble_eq_true rfl⟩ rfl (fun Hp9 lc9 Mz9 => ?_)
  have Mz9 : zM D A s.heap [(o, .inr (6, hsF ad lo)), (ad 7, .inr (0, [.int (kb), .ref rb, .int (nI (g))])), (rb, .inl (T 3, n, qa fb)), (h, .inr (1, biF a q u (upd (upd (upd β 5 (KX γ (FM γ (en * cn / 1000) α) (β 5))) 7 (clS (β 7))) 8 (wrm (clS (β 7)) (β 8))))), (a, .inl (T 0, 8, .inl (KA γ (FM γ (en * cn / 1000) α)))), (q, .inl (T 0, 8, .inl κ)), (u, .inr (5, [.int (τ 0), .int (τ 1), .int (τ 2)])), (ad 8, .inr (0, [.int (kd), .ref rd, .int (nI (gd))])), (rd, .inl (T 3, nd, qa fd)), (d, .inr (2, [.ref da, .int (if 0 < lf - 1 then lf - 1 else 0)])), (da, .inl (T 0, 8, .inl γ))] _ _ := Mz9
  exact hret _ _ _ _ _ sl9 _ _ Mz9 (rfl) (rfl) (rfl) (Nat.le_of_ble_eq_true rfl) (Nat.le_of_ble_eq_true rfl) dX5_press_79
set_option maxHeartbeats 4000000 in
set_option maxRecDepth 100000 in
theorem ch_press_ok1n (l : Launch) (D : va_G) (T : Nat → ClassId) (o : Nat) (ad : Nat → Nat) (lo : Int32) (kb : Int32) (rb n g : Nat) (fb : Nat → Option Nat) (h a q u : Nat) (β α κ τ : Nat → Int32) (i : Nat) (hi : i < g) (hg : g ≤ n) (hn : n ≤ 40000) (hf : fb i = some h) (kd : Int32) (rd nd gd : Nat) (fd : Nat → Option Nat) (d da : Nat) (lf : Int32) (γ : Nat → Int32) (i9 : Nat) (hi9 : i9 < gd) (hg9 : gd ≤ nd) (hn9 : nd ≤ 40000) (hf9 : fd i9 = some d) (en cn : Nat) (he1 : 1 ≤ en) (he2 : en ≤ 50) (h8 : β 8 = nI cn) (hcm : cn ≤ 1300) (hec : en * cn < 2 ^ 31) (h12 : β 12 = 0) (hlf : 0 < lf) (Bd : Nat) (hB : Bd < 2 ^ 30) (hfa : ∀ x, x < 8 → bnd Bd (α x)) (hga : ∀ x, x < 8 → bnd Bd (γ x)) (hcn : 700 ≤ cn) (hc9 : 900 ≤ cn) (hz : ¬ CL γ (FM γ (en * cn / 1000) α) = 0) : ZI l yX5_press wsX5_press (zrm 4 93) D T [(o, .inr (6, hsF ad lo)), (ad 7, .inr (0, [.int (kb), .ref rb, .int (nI (g))])), (rb, .inl (T 3, n, qa fb)), (h, .inr (1, biF a q u β)), (a, .inl (T 0, 8, .inl α)), (q, .inl (T 0, 8, .inl κ)), (u, .inr (5, [.int (τ 0), .int (τ 1), .int (τ 2)])), (ad 8, .inr (0, [.int (kd), .ref rd, .int (nI (gd))])), (rd, .inl (T 3, nd, qa fd)), (d, .inr (2, [.ref da, .int (lf)])), (da, .inl (T 0, 8, .inl γ))] [(o, .inr (6, hsF ad lo)), (ad 7, .inr (0, [.int (kb), .ref rb, .int (nI (g))])), (rb, .inl (T 3, n, qa fb)), (h, .inr (1, biF a q u (upd (upd β 7 (clS (β 7))) 8 (wrm (clS (β 7)) (β 8))))), (a, .inl (T 0, 8, .inl (FM γ (en * cn / 1000) α))), (q, .inl (T 0, 8, .inl κ)), (u, .inr (5, [.int (τ 0), .int (τ 1), .int (τ 2)])), (ad 8, .inr (0, [.int (kd), .ref rd, .int (nI (gd))])), (rd, .inl (T 3, nd, qa fd)), (d, .inr (2, [.ref da, .int (if 0 < lf - 1 then lf - 1 else 0)])), (da, .inl (T 0, 8, .inl γ))] [.ref o, .int (nI (i)), .int (nI (i9)), .int (nI (en))] (CL γ (FM γ (en * cn / 1000) α)) 0 0 := by
  refine z_inI (cc := cX5_press) (maxL := 6) (rt := .int) (by decide +kernel) rfl (Nat.le_of_ble_eq_true rfl) ?_
  intro p e s m args below meth c sl9 A Q Z hnm Mz9 hl9 hret
  have Z : zC p s m args c cX5_press 6 RX5 wsX5_press D T A := Z
  have hx := Z.1.1
  have hb := Z.1.2.1
  have hts := Z.1.2.2.2.2
  have hin5 : ∀ w ∈ wsX50, w ∈ wsX5_press := by decide +kernel
  have hinL : ∀ w ∈ wsJx4a65c0, w ∈ wsX5_press := by decide +kernel
  have hin0 : ∀ w ∈ wsX00, w ∈ wsX5_press := by decide +kernel
  have hin1 : ∀ w ∈ wsX10, w ∈ wsX5_press := by decide +kernel
  have L125 := hts (.fieldLink RX5 125 "AnvilHouse$Billet" "cracked" "Z") (by decide +kernel)
  have L208 := hts (.fieldLink RX5 208 "AnvilHouse$Die" "life" "I") (by decide +kernel)
  have hl9 : lv_has sl9 6 [(0, .ref o), (1, .int (nI (i))), (2, .int (nI (i9))), (3, .int (nI (en)))] := hl9
  refine lv_aload_n hx hb dX5_press_0 rfl (lv_at hl9 0 rfl) ?_
  refine lv_iload_n hx hb dX5_press_1 rfl (lv_at hl9 1 rfl) ?_
  refine z_callVr (As := [.int (nI (i))]) (rest := []) (wc := [(o, .inr (6, hsF ad lo)), (ad 7, .inr (0, [.int (kb), .ref rb, .int (nI (g))])), (rb, .inl (T 3, n, qa fb)), (h, .inr (1, biF a q u β))]) Z Mz9 (ch_billetAt l D T o ad lo kb rb n g fb h (biF a q u β) i hi hg hn hf) (cwV 1 hts gX5_press_X5_billetAt rfl rfl rfl (by decide +kernel) ⟨Nat.le_of_ble_eq_true rfl, Nat.le_of_ble_eq_true rfl⟩) [0, 1, 2, 3] rfl (by decide) (fun _ j hj => rfl) (fun _ => Nat.le_refl _) (va_recv Z.2.1 Mz9.1 (ci := 6) (q0 := 0) rfl rfl) rfl hl9.1 (Nat.le_of_ble_eq_true rfl) dX5_press_2 ⟨Nat.le_of_ble_eq_true rfl, Nat.le_of_ble_eq_true rfl⟩ rfl (fun _ Hp9 lc9 Mz9 => ?_)
  have Mz9 : zM D A s.heap [(o, .inr (6, hsF ad lo)), (ad 7, .inr (0, [.int (kb), .ref rb, .int (nI (g))])), (rb, .inl (T 3, n, qa fb)), (h, .inr (1, biF a q u β)), (a, .inl (T 0, 8, .inl α)), (q, .inl (T 0, 8, .inl κ)), (u, .inr (5, [.int (τ 0), .int (τ 1), .int (τ 2)])), (ad 8, .inr (0, [.int (kd), .ref rd, .int (nI (gd))])), (rd, .inl (T 3, nd, qa fd)), (d, .inr (2, [.ref da, .int (lf)])), (da, .inl (T 0, 8, .inl γ))] _ _ := Mz9
  refine lv_astore (lv' := [(4, .ref h), (0, .ref o), (1, .int (nI (i))), (2, .int (nI (i9))), (3, .int (nI (en)))]) hx hb dX5_press_5 hl9 (by decide) rfl (fun sl9 hl9 => ?_)
  refine lv_aload_n hx hb dX5_press_7 rfl (lv_at hl9 1 rfl) ?_
  refine lv_iload_n hx hb dX5_press_8 rfl (lv_at hl9 3 rfl) ?_
  refine z_callVr (As := [.int (nI (i9))]) (rest := []) (wc := [(o, .inr (6, hsF ad lo)), (ad 8, .inr (0, [.int (kd), .ref rd, .int (nI (gd))])), (rd, .inl (T 3, nd, qa fd)), (d, .inr (2, [.ref da, .int (lf)]))]) Z Mz9 (ch_dieAt l D T o ad lo kd rd nd gd fd d ([.ref da, .int (lf)]) i9 hi9 hg9 hn9 hf9) (cwV 1 hts gX5_press_X5_dieAt rfl rfl rfl (by decide +kernel) ⟨Nat.le_of_ble_eq_true rfl, Nat.le_of_ble_eq_true rfl⟩) [0, 7, 8, 9] rfl (by decide) (fun _ j hj => rfl) (fun _ => Nat.le_refl _) (va_recv Z.2.1 Mz9.1 (ci := 6) (q0 := 0) rfl rfl) rfl hl9.1 (Nat.le_of_ble_eq_true rfl) dX5_press_9 ⟨Nat.le_of_ble_eq_true rfl, Nat.le_of_ble_eq_true rfl⟩ rfl (fun _ Hp9 lc9 Mz9 => ?_)
  have Mz9 : zM D A s.heap [(o, .inr (6, hsF ad lo)), (ad 7, .inr (0, [.int (kb), .ref rb, .int (nI (g))])), (rb, .inl (T 3, n, qa fb)), (h, .inr (1, biF a q u β)), (a, .inl (T 0, 8, .inl α)), (q, .inl (T 0, 8, .inl κ)), (u, .inr (5, [.int (τ 0), .int (τ 1), .int (τ 2)])), (ad 8, .inr (0, [.int (kd), .ref rd, .int (nI (gd))])), (rd, .inl (T 3, nd, qa fd)), (d, .inr (2, [.ref da, .int (lf)])), (da, .inl (T 0, 8, .inl γ))] _ _ := Mz9
  refine lv_astore (lv' := [(5, .ref d), (4, .ref h), (0, .ref o), (1, .int (nI (i))), (2, .int (nI (i9))), (3, .int (nI (en)))]) hx hb dX5_press_12 hl9 (by decide) rfl (fun sl9 hl9 => ?_)
  refine lv_iload_n hx hb dX5_press_14 rfl (lv_at hl9 5 rfl) ?_
  refine lv_iconst (v := 1) hx hb dX5_press_15 (by decide) ?_
  refine zn_icmp_lt (a := en) (b := 1) (tgt := 25) (by omega) (by decide) hx hb dX5_press_16 (by decide) (fun h => absurd h (by omega)) (fun _ => ?_)
  refine lv_iload_n hx hb dX5_press_19 rfl (lv_at hl9 5 rfl) ?_
  refine lv_bipush (v := 50) hx hb dX5_press_20 (by decide) ?_
  refine zn_icmp_le (a := en) (b := 50) (tgt := 35) (by omega) (by decide) hx hb dX5_press_22 (by decide) (fun _ => ?_) (fun h => absurd h (by omega))
  refine lv_aload hx hb dX5_press_35 (lv_at hl9 1 rfl) ?_
  refine z_getf Z Mz9 hin0 3 rfl rfl 12 (by decide) L125 rfl (v := .int (β 12)) rfl dX5_press_37 ?_
  refine lv_if_eq (tgt := 53) hx hb dX5_press_40 (by decide) (fun _ => ?_) (fun h => absurd h (fun z => z h12))
  refine lv_aload hx hb dX5_press_53 (lv_at hl9 0 rfl) ?_
  refine z_getf Z Mz9 hin1 9 rfl rfl 1 (by decide) L208 rfl (v := .int (lf)) rfl dX5_press_55 ?_
  refine lv_if_gt (tgt := 71) hx hb dX5_press_58 (by decide) (fun _ => ?_) (fun h => absurd h (fun z => z hlf))
  refine lv_aload hx hb dX5_press_71 (lv_at hl9 1 rfl) ?_
  refine lv_aload hx hb dX5_press_73 (lv_at hl9 0 rfl) ?_
  refine lv_iload_n hx hb dX5_press_75 rfl (lv_at hl9 5 rfl) ?_
  refine z_callVi (As := [.ref d, .int (nI (en))]) (rest := []) (rv := CL γ (FM γ (en * cn / 1000) α)) (wc := bidW h a q u d da T β α κ τ lf γ) (wc' := bidW h a q u d da T (upd (upd β 7 (clS (β 7))) 8 (wrm (clS (β 7)) (β 8))) (FM γ (en * cn / 1000) α) κ τ (if 0 < lf - 1 then lf - 1 else 0) γ) Z Mz9 (cb_squeezeInto_ok1n l D T h a q u d da β α κ τ lf γ en cn h8 hec hcm Bd hB hfa hga hcn hc9 hz) (cwV 2 hts gX5_press_X0_squeezeInto rfl rfl rfl (by decide +kernel) ⟨Nat.le_of_ble_eq_true rfl, Nat.le_of_ble_eq_true rfl⟩) [3, 4, 5, 6, 9, 10] rfl (by decide) (fun j hj => rfl) (Nat.le_refl _) (va_recv Z.2.1 Mz9.1 (ci := 1) (q0 := 3) rfl rfl) rfl hl9.1 (Nat.le_of_ble_eq_true rfl) dX5_press_76 ⟨Nat.le_of_ble_eq_true rfl, Nat.le_of_ble_eq_true rfl⟩ rfl (fun Hp9 lc9 Mz9 => ?_)
  have Mz9 : zM D A s.heap [(o, .inr (6, hsF ad lo)), (ad 7, .inr (0, [.int (kb), .ref rb, .int (nI (g))])), (rb, .inl (T 3, n, qa fb)), (h, .inr (1, biF a q u (upd (upd β 7 (clS (β 7))) 8 (wrm (clS (β 7)) (β 8))))), (a, .inl (T 0, 8, .inl (FM γ (en * cn / 1000) α))), (q, .inl (T 0, 8, .inl κ)), (u, .inr (5, [.int (τ 0), .int (τ 1), .int (τ 2)])), (ad 8, .inr (0, [.int (kd), .ref rd, .int (nI (gd))])), (rd, .inl (T 3, nd, qa fd)), (d, .inr (2, [.ref da, .int (if 0 < lf - 1 then lf - 1 else 0)])), (da, .inl (T 0, 8, .inl γ))] _ _ := Mz9
  exact hret _ _ _ _ _ sl9 _ _ Mz9 (rfl) (rfl) (rfl) (Nat.le_of_ble_eq_true rfl) (Nat.le_of_ble_eq_true rfl) dX5_press_79
set_option maxHeartbeats 4000000 in
set_option maxRecDepth 100000 in
theorem ch_press_b (l : Launch) (hfl : l.stackTraces = false) (D : va_G) (T : Nat → ClassId) (ea mi : Nat) (sa : Nat → Nat) (o : Nat) (ad : Nat → Nat) (lo : Int32) (kb : Int32) (rb g : Nat) (v : Int32) (t w9 : Int32) (hv9 : v < 0 ∨ nI g ≤ v) : ZB l yX5_press wsX5_press (zrmc 7 103 1 6) (zW ea mi sa) D T [(o, .inr (6, hsF ad lo)), (ad 7, .inr (0, [.int (kb), .ref rb, .int (nI (g))]))] [.ref o, .int (v), .int (t), .int (w9)] "java/lang/IndexOutOfBoundsException" := by
  refine z_inB (cc := cX5_press) (maxL := 6) (ret := (some .int)) (by decide +kernel) rfl (Nat.le_of_ble_eq_true rfl) ?_
  intro p e s m args below meth c sl9 A hA Z hW Mz9 hl9 hE
  have Z : zC p s m args c cX5_press 6 RX5 wsX5_press D T A := Z
  have hx := Z.1.1
  have hb := Z.1.2.1
  have hts := Z.1.2.2.2.2
  have hin5 : ∀ w ∈ wsX50, w ∈ wsX5_press := by decide +kernel
  have hinL : ∀ w ∈ wsJx4a65c0, w ∈ wsX5_press := by decide +kernel
  have hin0 : ∀ w ∈ wsX00, w ∈ wsX5_press := by decide +kernel
  have hin1 : ∀ w ∈ wsX10, w ∈ wsX5_press := by decide +kernel
  have L125 := hts (.fieldLink RX5 125 "AnvilHouse$Billet" "cracked" "Z") (by decide +kernel)
  have L208 := hts (.fieldLink RX5 208 "AnvilHouse$Die" "life" "I") (by decide +kernel)
  have hl9 : lv_has sl9 6 [(0, .ref o), (1, .int (v)), (2, .int (t)), (3, .int (w9))] := hl9
  refine lv_aload_n hx hb dX5_press_0 rfl (lv_at hl9 0 rfl) ?_
  refine lv_iload_n hx hb dX5_press_1 rfl (lv_at hl9 1 rfl) ?_
  exact z_callB (As := [.int (v)]) (rest := []) (wc := [(o, .inr (6, hsF ad lo)), (ad 7, .inr (0, [.int (kb), .ref rb, .int (nI (g))]))]) (zW_k ea mi sa) hW Z Mz9 hA hE (ch_billetAt_bad l hfl D T ea mi sa o ad lo kb rb g v hv9) (cwV 1 hts gX5_press_X5_billetAt rfl rfl rfl (by decide +kernel) ⟨Nat.le_of_ble_eq_true rfl, Nat.le_of_ble_eq_true rfl⟩) [0, 1] rfl (by decide) (va_recv Z.2.1 Mz9.1 (ci := 6) (q0 := 0) rfl rfl) rfl hl9.1 (Nat.le_of_ble_eq_true rfl) dX5_press_2 ⟨Nat.le_of_ble_eq_true rfl, Nat.le_of_ble_eq_true rfl⟩ ⟨Nat.le_of_ble_eq_true rfl, Nat.le_of_ble_eq_true rfl⟩ rfl rfl
set_option maxHeartbeats 4000000 in
set_option maxRecDepth 100000 in
theorem ch_press_d (l : Launch) (hfl : l.stackTraces = false) (D : va_G) (T : Nat → ClassId) (ea mi : Nat) (sa : Nat → Nat) (o : Nat) (ad : Nat → Nat) (lo : Int32) (kb : Int32) (rb n g : Nat) (fb : Nat → Option Nat) (h a q u : Nat) (β : Nat → Int32) (i : Nat) (hi : i < g) (hg : g ≤ n) (hn : n ≤ 40000) (hf : fb i = some h) (kd : Int32) (rd gd : Nat) (v w9 : Int32) (hv9 : v < 0 ∨ nI gd ≤ v) : ZB l yX5_press wsX5_press (zrmc 7 103 1 6) (zW ea mi sa) D T [(o, .inr (6, hsF ad lo)), (ad 7, .inr (0, [.int (kb), .ref rb, .int (nI (g))])), (rb, .inl (T 3, n, qa fb)), (h, .inr (1, biF a q u β)), (ad 8, .inr (0, [.int (kd), .ref rd, .int (nI (gd))]))] [.ref o, .int (nI (i)), .int (v), .int (w9)] "java/lang/IndexOutOfBoundsException" := by
  refine z_inB (cc := cX5_press) (maxL := 6) (ret := (some .int)) (by decide +kernel) rfl (Nat.le_of_ble_eq_true rfl) ?_
  intro p e s m args below meth c sl9 A hA Z hW Mz9 hl9 hE
  have Z : zC p s m args c cX5_press 6 RX5 wsX5_press D T A := Z
  have hx := Z.1.1
  have hb := Z.1.2.1
  have hts := Z.1.2.2.2.2
  have hin5 : ∀ w ∈ wsX50, w ∈ wsX5_press := by decide +kernel
  have hinL : ∀ w ∈ wsJx4a65c0, w ∈ wsX5_press := by decide +kernel
  have hin0 : ∀ w ∈ wsX00, w ∈ wsX5_press := by decide +kernel
  have hin1 : ∀ w ∈ wsX10, w ∈ wsX5_press := by decide +kernel
  have L125 := hts (.fieldLink RX5 125 "AnvilHouse$Billet" "cracked" "Z") (by decide +kernel)
  have L208 := hts (.fieldLink RX5 208 "AnvilHouse$Die" "life" "I") (by decide +kernel)
  have hl9 : lv_has sl9 6 [(0, .ref o), (1, .int (nI (i))), (2, .int (v)), (3, .int (w9))] := hl9
  refine lv_aload_n hx hb dX5_press_0 rfl (lv_at hl9 0 rfl) ?_
  refine lv_iload_n hx hb dX5_press_1 rfl (lv_at hl9 1 rfl) ?_
  refine z_callVr (As := [.int (nI (i))]) (rest := []) (wc := [(o, .inr (6, hsF ad lo)), (ad 7, .inr (0, [.int (kb), .ref rb, .int (nI (g))])), (rb, .inl (T 3, n, qa fb)), (h, .inr (1, biF a q u β))]) Z Mz9 (ch_billetAt l D T o ad lo kb rb n g fb h (biF a q u β) i hi hg hn hf) (cwV 1 hts gX5_press_X5_billetAt rfl rfl rfl (by decide +kernel) ⟨Nat.le_of_ble_eq_true rfl, Nat.le_of_ble_eq_true rfl⟩) [0, 1, 2, 3] rfl (by decide) (fun _ j hj => rfl) (fun _ => Nat.le_refl _) (va_recv Z.2.1 Mz9.1 (ci := 6) (q0 := 0) rfl rfl) rfl hl9.1 (Nat.le_of_ble_eq_true rfl) dX5_press_2 ⟨Nat.le_of_ble_eq_true rfl, Nat.le_of_ble_eq_true rfl⟩ rfl (fun _ Hp9 lc9 Mz9 => ?_)
  have Mz9 : zM D A s.heap [(o, .inr (6, hsF ad lo)), (ad 7, .inr (0, [.int (kb), .ref rb, .int (nI (g))])), (rb, .inl (T 3, n, qa fb)), (h, .inr (1, biF a q u β)), (ad 8, .inr (0, [.int (kd), .ref rd, .int (nI (gd))]))] _ _ := Mz9
  refine lv_astore (lv' := [(4, .ref h), (0, .ref o), (1, .int (nI (i))), (2, .int (v)), (3, .int (w9))]) hx hb dX5_press_5 hl9 (by decide) rfl (fun sl9 hl9 => ?_)
  refine lv_aload_n hx hb dX5_press_7 rfl (lv_at hl9 1 rfl) ?_
  refine lv_iload_n hx hb dX5_press_8 rfl (lv_at hl9 3 rfl) ?_
  exact z_callB (As := [.int (v)]) (rest := []) (wc := [(o, .inr (6, hsF ad lo)), (ad 8, .inr (0, [.int (kd), .ref rd, .int (nI (gd))]))]) (zW_k ea mi sa) hW Z Mz9 hA hE (ch_dieAt_bad l hfl D T ea mi sa o ad lo kd rd gd v hv9) (cwV 1 hts gX5_press_X5_dieAt rfl rfl rfl (by decide +kernel) ⟨Nat.le_of_ble_eq_true rfl, Nat.le_of_ble_eq_true rfl⟩) [0, 4] rfl (by decide) (va_recv Z.2.1 Mz9.1 (ci := 6) (q0 := 0) rfl rfl) rfl hl9.1 (Nat.le_of_ble_eq_true rfl) dX5_press_9 ⟨Nat.le_of_ble_eq_true rfl, Nat.le_of_ble_eq_true rfl⟩ ⟨Nat.le_of_ble_eq_true rfl, Nat.le_of_ble_eq_true rfl⟩ rfl rfl
set_option maxHeartbeats 4000000 in
set_option maxRecDepth 100000 in
theorem ch_press_a (l : Launch) (hfl : l.stackTraces = false) (D : va_G) (T : Nat → ClassId) (ea mi : Nat) (sa : Nat → Nat) (o : Nat) (ad : Nat → Nat) (lo : Int32) (kb : Int32) (rb n g : Nat) (fb : Nat → Option Nat) (h a q u : Nat) (β : Nat → Int32) (i : Nat) (hi : i < g) (hg : g ≤ n) (hn : n ≤ 40000) (hf : fb i = some h) (kd : Int32) (rd nd gd : Nat) (fd : Nat → Option Nat) (d da : Nat) (lf : Int32) (i9 : Nat) (hi9 : i9 < gd) (hg9 : gd ≤ nd) (hn9 : nd ≤ 40000) (hf9 : fd i9 = some d) (v : Int32) (hv9 : v < 1 ∨ 50 < v) : ZB l yX5_press wsX5_press (zrmc 6 85 1 6) (zW ea mi sa) D T [(o, .inr (6, hsF ad lo)), (ad 7, .inr (0, [.int (kb), .ref rb, .int (nI (g))])), (rb, .inl (T 3, n, qa fb)), (h, .inr (1, biF a q u β)), (ad 8, .inr (0, [.int (kd), .ref rd, .int (nI (gd))])), (rd, .inl (T 3, nd, qa fd)), (d, .inr (2, [.ref da, .int (lf)]))] [.ref o, .int (nI (i)), .int (nI (i9)), .int (v)] "java/lang/IllegalArgumentException" := by
  refine z_inB (cc := cX5_press) (maxL := 6) (ret := (some .int)) (by decide +kernel) rfl (Nat.le_of_ble_eq_true rfl) ?_
  intro p e s m args below meth c sl9 A hA Z hW Mz9 hl9 hE
  have Z : zC p s m args c cX5_press 6 RX5 wsX5_press D T A := Z
  have hx := Z.1.1
  have hb := Z.1.2.1
  have hts := Z.1.2.2.2.2
  have hin5 : ∀ w ∈ wsX50, w ∈ wsX5_press := by decide +kernel
  have hinL : ∀ w ∈ wsJx4a65c0, w ∈ wsX5_press := by decide +kernel
  have hin0 : ∀ w ∈ wsX00, w ∈ wsX5_press := by decide +kernel
  have hin1 : ∀ w ∈ wsX10, w ∈ wsX5_press := by decide +kernel
  have hX9 : ∀ w ∈ Cond.classLink RX5 51 "java/lang/IllegalArgumentException" :: Cond.initialized "java/lang/IllegalArgumentException" :: (vx_atS RX5 55 "java/lang/IllegalArgumentException" zNm).filter goodWord, w ∈ wsX5_press := by decide +kernel
  have L125 := hts (.fieldLink RX5 125 "AnvilHouse$Billet" "cracked" "Z") (by decide +kernel)
  have L208 := hts (.fieldLink RX5 208 "AnvilHouse$Die" "life" "I") (by decide +kernel)
  have hl9 : lv_has sl9 6 [(0, .ref o), (1, .int (nI (i))), (2, .int (nI (i9))), (3, .int (v))] := hl9
  refine lv_aload_n hx hb dX5_press_0 rfl (lv_at hl9 0 rfl) ?_
  refine lv_iload_n hx hb dX5_press_1 rfl (lv_at hl9 1 rfl) ?_
  refine z_callVr (As := [.int (nI (i))]) (rest := []) (wc := [(o, .inr (6, hsF ad lo)), (ad 7, .inr (0, [.int (kb), .ref rb, .int (nI (g))])), (rb, .inl (T 3, n, qa fb)), (h, .inr (1, biF a q u β))]) Z Mz9 (ch_billetAt l D T o ad lo kb rb n g fb h (biF a q u β) i hi hg hn hf) (cwV 1 hts gX5_press_X5_billetAt rfl rfl rfl (by decide +kernel) ⟨Nat.le_of_ble_eq_true rfl, Nat.le_of_ble_eq_true rfl⟩) [0, 1, 2, 3] rfl (by decide) (fun _ j hj => rfl) (fun _ => Nat.le_refl _) (va_recv Z.2.1 Mz9.1 (ci := 6) (q0 := 0) rfl rfl) rfl hl9.1 (Nat.le_of_ble_eq_true rfl) dX5_press_2 ⟨Nat.le_of_ble_eq_true rfl, Nat.le_of_ble_eq_true rfl⟩ rfl (fun _ Hp9 lc9 Mz9 => ?_)
  have Mz9 : zM D A s.heap [(o, .inr (6, hsF ad lo)), (ad 7, .inr (0, [.int (kb), .ref rb, .int (nI (g))])), (rb, .inl (T 3, n, qa fb)), (h, .inr (1, biF a q u β)), (ad 8, .inr (0, [.int (kd), .ref rd, .int (nI (gd))])), (rd, .inl (T 3, nd, qa fd)), (d, .inr (2, [.ref da, .int (lf)]))] _ _ := Mz9
  refine lv_astore (lv' := [(4, .ref h), (0, .ref o), (1, .int (nI (i))), (2, .int (nI (i9))), (3, .int (v))]) hx hb dX5_press_5 hl9 (by decide) rfl (fun sl9 hl9 => ?_)
  refine lv_aload_n hx hb dX5_press_7 rfl (lv_at hl9 1 rfl) ?_
  refine lv_iload_n hx hb dX5_press_8 rfl (lv_at hl9 3 rfl) ?_
  refine z_callVr (As := [.int (nI (i9))]) (rest := []) (wc := [(o, .inr (6, hsF ad lo)), (ad 8, .inr (0, [.int (kd), .ref rd, .int (nI (gd))])), (rd, .inl (T 3, nd, qa fd)), (d, .inr (2, [.ref da, .int (lf)]))]) Z Mz9 (ch_dieAt l D T o ad lo kd rd nd gd fd d ([.ref da, .int (lf)]) i9 hi9 hg9 hn9 hf9) (cwV 1 hts gX5_press_X5_dieAt rfl rfl rfl (by decide +kernel) ⟨Nat.le_of_ble_eq_true rfl, Nat.le_of_ble_eq_true rfl⟩) [0, 4, 5, 6] rfl (by decide) (fun _ j hj => rfl) (fun _ => Nat.le_refl _) (va_recv Z.2.1 Mz9.1 (ci := 6) (q0 := 0) rfl rfl) rfl hl9.1 (Nat.le_of_ble_eq_true rfl) dX5_press_9 ⟨Nat.le_of_ble_eq_true rfl, Nat.le_of_ble_eq_true rfl⟩ rfl (fun _ Hp9 lc9 Mz9 => ?_)
  have Mz9 : zM D A s.heap [(o, .inr (6, hsF ad lo)), (ad 7, .inr (0, [.int (kb), .ref rb, .int (nI (g))])), (rb, .inl (T 3, n, qa fb)), (h, .inr (1, biF a q u β)), (ad 8, .inr (0, [.int (kd), .ref rd, .int (nI (gd))])), (rd, .inl (T 3, nd, qa fd)), (d, .inr (2, [.ref da, .int (lf)]))] _ _ := Mz9
  refine lv_astore (lv' := [(5, .ref d), (4, .ref h), (0, .ref o), (1, .int (nI (i))), (2, .int (nI (i9))), (3, .int (v))]) hx hb dX5_press_12 hl9 (by decide) rfl (fun sl9 hl9 => ?_)
  refine lv_iload_n hx hb dX5_press_14 rfl (lv_at hl9 5 rfl) ?_
  refine lv_iconst (v := 1) hx hb dX5_press_15 (by decide) ?_
  refine lv_icmp_lt (tgt := 25) hx hb dX5_press_16 (by decide) (fun c_1 => ?_) (fun c_1 => ?_)
  ·
    exact z_throw Z hW Mz9 hA hE hl9.1 hfl zThr_A hX9 (is := 211) (text := "an energy is 1 to 50") (by decide +kernel) dX5_press_25 dX5_press_28 dX5_press_29 dX5_press_31 dX5_press_34 (Nat.le_of_ble_eq_true rfl) (Nat.le_of_ble_eq_true rfl) ⟨Nat.le_of_ble_eq_true rfl, Nat.le_of_ble_eq_true rfl⟩ ⟨Nat.le_of_ble_eq_true rfl, Nat.le_of_ble_eq_true rfl⟩ rfl
  ·
    refine lv_iload_n hx hb dX5_press_19 rfl (lv_at hl9 5 rfl) ?_
    refine lv_bipush (v := 50) hx hb dX5_press_20 (by decide) ?_
    refine lv_icmp_le (tgt := 35) hx hb dX5_press_22 (by decide) (fun c_2 => ?_) (fun c_2 => ?_)
    ·
      exact False.elim (by rcases hv9 with h | h <;> first | exact absurd h c_1 | exact absurd c_1 h | exact absurd h (Int32.not_lt.mpr c_1) | exact absurd (Int32.not_le.mp c_1) (Int32.not_lt.mpr h) | exact absurd c_1 (Int32.not_lt.mpr h) | exact absurd h c_2 | exact absurd c_2 h | exact absurd h (Int32.not_lt.mpr c_2) | exact absurd (Int32.not_le.mp c_2) (Int32.not_lt.mpr h) | exact absurd c_2 (Int32.not_lt.mpr h))
    ·
      exact z_throw Z hW Mz9 hA hE hl9.1 hfl zThr_A hX9 (is := 211) (text := "an energy is 1 to 50") (by decide +kernel) dX5_press_25 dX5_press_28 dX5_press_29 dX5_press_31 dX5_press_34 (Nat.le_of_ble_eq_true rfl) (Nat.le_of_ble_eq_true rfl) ⟨Nat.le_of_ble_eq_true rfl, Nat.le_of_ble_eq_true rfl⟩ ⟨Nat.le_of_ble_eq_true rfl, Nat.le_of_ble_eq_true rfl⟩ rfl
set_option maxHeartbeats 4000000 in
set_option maxRecDepth 100000 in
theorem ch_press_w (l : Launch) (hfl : l.stackTraces = false) (D : va_G) (T : Nat → ClassId) (ea mi : Nat) (sa : Nat → Nat) (o : Nat) (ad : Nat → Nat) (lo : Int32) (kb : Int32) (rb n g : Nat) (fb : Nat → Option Nat) (h a q u : Nat) (β : Nat → Int32) (i : Nat) (hi : i < g) (hg : g ≤ n) (hn : n ≤ 40000) (hf : fb i = some h) (kd : Int32) (rd nd gd : Nat) (fd : Nat → Option Nat) (d da : Nat) (lf : Int32) (i9 : Nat) (hi9 : i9 < gd) (hg9 : gd ≤ nd) (hn9 : nd ≤ 40000) (hf9 : fd i9 = some d) (v : Int32) (h1 : ¬ v < 1) (h2 : v ≤ 50) (hv9 : ¬ β 12 = 0 ∨ ¬ 0 < lf) : ZB l yX5_press wsX5_press (zrmc 6 85 1 6) (zW ea mi sa) D T [(o, .inr (6, hsF ad lo)), (ad 7, .inr (0, [.int (kb), .ref rb, .int (nI (g))])), (rb, .inl (T 3, n, qa fb)), (h, .inr (1, biF a q u β)), (ad 8, .inr (0, [.int (kd), .ref rd, .int (nI (gd))])), (rd, .inl (T 3, nd, qa fd)), (d, .inr (2, [.ref da, .int (lf)]))] [.ref o, .int (nI (i)), .int (nI (i9)), .int (v)] "java/lang/IllegalStateException" := by
  refine z_inB (cc := cX5_press) (maxL := 6) (ret := (some .int)) (by decide +kernel) rfl (Nat.le_of_ble_eq_true rfl) ?_
  intro p e s m args below meth c sl9 A hA Z hW Mz9 hl9 hE
  have Z : zC p s m args c cX5_press 6 RX5 wsX5_press D T A := Z
  have hx := Z.1.1
  have hb := Z.1.2.1
  have hts := Z.1.2.2.2.2
  have hin5 : ∀ w ∈ wsX50, w ∈ wsX5_press := by decide +kernel
  have hinL : ∀ w ∈ wsJx4a65c0, w ∈ wsX5_press := by decide +kernel
  have hin0 : ∀ w ∈ wsX00, w ∈ wsX5_press := by decide +kernel
  have hin1 : ∀ w ∈ wsX10, w ∈ wsX5_press := by decide +kernel
  have hX9 : ∀ w ∈ Cond.classLink RX5 76 "java/lang/IllegalStateException" :: Cond.initialized "java/lang/IllegalStateException" :: (vx_atS RX5 80 "java/lang/IllegalStateException" zNm).filter goodWord, w ∈ wsX5_press := by decide +kernel
  have L125 := hts (.fieldLink RX5 125 "AnvilHouse$Billet" "cracked" "Z") (by decide +kernel)
  have L208 := hts (.fieldLink RX5 208 "AnvilHouse$Die" "life" "I") (by decide +kernel)
  have hl9 : lv_has sl9 6 [(0, .ref o), (1, .int (nI (i))), (2, .int (nI (i9))), (3, .int (v))] := hl9
  refine lv_aload_n hx hb dX5_press_0 rfl (lv_at hl9 0 rfl) ?_
  refine lv_iload_n hx hb dX5_press_1 rfl (lv_at hl9 1 rfl) ?_
  refine z_callVr (As := [.int (nI (i))]) (rest := []) (wc := [(o, .inr (6, hsF ad lo)), (ad 7, .inr (0, [.int (kb), .ref rb, .int (nI (g))])), (rb, .inl (T 3, n, qa fb)), (h, .inr (1, biF a q u β))]) Z Mz9 (ch_billetAt l D T o ad lo kb rb n g fb h (biF a q u β) i hi hg hn hf) (cwV 1 hts gX5_press_X5_billetAt rfl rfl rfl (by decide +kernel) ⟨Nat.le_of_ble_eq_true rfl, Nat.le_of_ble_eq_true rfl⟩) [0, 1, 2, 3] rfl (by decide) (fun _ j hj => rfl) (fun _ => Nat.le_refl _) (va_recv Z.2.1 Mz9.1 (ci := 6) (q0 := 0) rfl rfl) rfl hl9.1 (Nat.le_of_ble_eq_true rfl) dX5_press_2 ⟨Nat.le_of_ble_eq_true rfl, Nat.le_of_ble_eq_true rfl⟩ rfl (fun _ Hp9 lc9 Mz9 => ?_)
  have Mz9 : zM D A s.heap [(o, .inr (6, hsF ad lo)), (ad 7, .inr (0, [.int (kb), .ref rb, .int (nI (g))])), (rb, .inl (T 3, n, qa fb)), (h, .inr (1, biF a q u β)), (ad 8, .inr (0, [.int (kd), .ref rd, .int (nI (gd))])), (rd, .inl (T 3, nd, qa fd)), (d, .inr (2, [.ref da, .int (lf)]))] _ _ := Mz9
  refine lv_astore (lv' := [(4, .ref h), (0, .ref o), (1, .int (nI (i))), (2, .int (nI (i9))), (3, .int (v))]) hx hb dX5_press_5 hl9 (by decide) rfl (fun sl9 hl9 => ?_)
  refine lv_aload_n hx hb dX5_press_7 rfl (lv_at hl9 1 rfl) ?_
  refine lv_iload_n hx hb dX5_press_8 rfl (lv_at hl9 3 rfl) ?_
  refine z_callVr (As := [.int (nI (i9))]) (rest := []) (wc := [(o, .inr (6, hsF ad lo)), (ad 8, .inr (0, [.int (kd), .ref rd, .int (nI (gd))])), (rd, .inl (T 3, nd, qa fd)), (d, .inr (2, [.ref da, .int (lf)]))]) Z Mz9 (ch_dieAt l D T o ad lo kd rd nd gd fd d ([.ref da, .int (lf)]) i9 hi9 hg9 hn9 hf9) (cwV 1 hts gX5_press_X5_dieAt rfl rfl rfl (by decide +kernel) ⟨Nat.le_of_ble_eq_true rfl, Nat.le_of_ble_eq_true rfl⟩) [0, 4, 5, 6] rfl (by decide) (fun _ j hj => rfl) (fun _ => Nat.le_refl _) (va_recv Z.2.1 Mz9.1 (ci := 6) (q0 := 0) rfl rfl) rfl hl9.1 (Nat.le_of_ble_eq_true rfl) dX5_press_9 ⟨Nat.le_of_ble_eq_true rfl, Nat.le_of_ble_eq_true rfl⟩ rfl (fun _ Hp9 lc9 Mz9 => ?_)
  have Mz9 : zM D A s.heap [(o, .inr (6, hsF ad lo)), (ad 7, .inr (0, [.int (kb), .ref rb, .int (nI (g))])), (rb, .inl (T 3, n, qa fb)), (h, .inr (1, biF a q u β)), (ad 8, .inr (0, [.int (kd), .ref rd, .int (nI (gd))])), (rd, .inl (T 3, nd, qa fd)), (d, .inr (2, [.ref da, .int (lf)]))] _ _ := Mz9
  refine lv_astore (lv' := [(5, .ref d), (4, .ref h), (0, .ref o), (1, .int (nI (i))), (2, .int (nI (i9))), (3, .int (v))]) hx hb dX5_press_12 hl9 (by decide) rfl (fun sl9 hl9 => ?_)
  refine lv_iload_n hx hb dX5_press_14 rfl (lv_at hl9 5 rfl) ?_
  refine lv_iconst (v := 1) hx hb dX5_press_15 (by decide) ?_
  refine lv_icmp_lt (tgt := 25) hx hb dX5_press_16 (by decide) (fun h => absurd h (h1)) (fun _ => ?_)
  refine lv_iload_n hx hb dX5_press_19 rfl (lv_at hl9 5 rfl) ?_
  refine lv_bipush (v := 50) hx hb dX5_press_20 (by decide) ?_
  refine lv_icmp_le (tgt := 35) hx hb dX5_press_22 (by decide) (fun _ => ?_) (fun h => absurd h (fun z => z h2))
  refine lv_aload hx hb dX5_press_35 (lv_at hl9 1 rfl) ?_
  refine z_getf Z Mz9 hin0 3 rfl rfl 12 (by decide) L125 rfl (v := .int (β 12)) rfl dX5_press_37 ?_
  refine lv_if_eq (tgt := 53) hx hb dX5_press_40 (by decide) (fun c_1 => ?_) (fun c_1 => ?_)
  ·
    refine lv_aload hx hb dX5_press_53 (lv_at hl9 0 rfl) ?_
    refine z_getf Z Mz9 hin1 6 rfl rfl 1 (by decide) L208 rfl (v := .int (lf)) rfl dX5_press_55 ?_
    refine lv_if_gt (tgt := 71) hx hb dX5_press_58 (by decide) (fun c_2 => ?_) (fun c_2 => ?_)
    ·
      exact False.elim (by rcases hv9 with h | h <;> first | exact absurd h c_1 | exact absurd c_1 h | exact absurd h (Int32.not_lt.mpr c_1) | exact absurd (Int32.not_le.mp c_1) (Int32.not_lt.mpr h) | exact absurd c_1 (Int32.not_lt.mpr h) | exact absurd h c_2 | exact absurd c_2 h | exact absurd h (Int32.not_lt.mpr c_2) | exact absurd (Int32.not_le.mp c_2) (Int32.not_lt.mpr h) | exact absurd c_2 (Int32.not_lt.mpr h))
    ·
      exact z_throw Z hW Mz9 hA hE hl9.1 hfl zThr_S hX9 (is := 213) (text := "the die has no life") (by decide +kernel) dX5_press_61 dX5_press_64 dX5_press_65 dX5_press_67 dX5_press_70 (Nat.le_of_ble_eq_true rfl) (Nat.le_of_ble_eq_true rfl) ⟨Nat.le_of_ble_eq_true rfl, Nat.le_of_ble_eq_true rfl⟩ ⟨Nat.le_of_ble_eq_true rfl, Nat.le_of_ble_eq_true rfl⟩ rfl
  ·
    exact z_throw Z hW Mz9 hA hE hl9.1 hfl zThr_S hX9 (is := 178) (text := "the billet has a crack") (by decide +kernel) dX5_press_43 dX5_press_46 dX5_press_47 dX5_press_49 dX5_press_52 (Nat.le_of_ble_eq_true rfl) (Nat.le_of_ble_eq_true rfl) ⟨Nat.le_of_ble_eq_true rfl, Nat.le_of_ble_eq_true rfl⟩ ⟨Nat.le_of_ble_eq_true rfl, Nat.le_of_ble_eq_true rfl⟩ rfl
