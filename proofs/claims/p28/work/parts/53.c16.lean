/-! ===== laid by program ===== -/
/-! ===== the house: blows, papers, layers ===== -/
set_option maxHeartbeats 4000000 in
set_option maxRecDepth 100000 in
theorem ch_blow_crack0 (l : Launch) (D : va_G) (T : Nat → ClassId) (ea mi : Nat) (sa : Nat → Nat) (o : Nat) (ad : Nat → Nat) (lo : Int32) (kb : Int32) (rb n g : Nat) (fb : Nat → Option Nat) (h a q u : Nat) (β α κ τ : Nat → Int32) (i : Nat) (hi : i < g) (hg : g ≤ n) (hn : n ≤ 40000) (hf : fb i = some h) (j : Nat) (hj : j < 8) (fo : Int32) (h1 : ¬ fo < 1) (h2 : fo ≤ 20) (h12 : β 12 = 0) (h8 : β 8 < 700) : ZIH l yX5_blow wsX5_blow (zrm 4 85) (zW ea mi sa) D T (S := Unit) [(o, .inr (6, hsF ad lo)), (ad 7, .inr (0, [.int (kb), .ref rb, .int (nI (g))])), (rb, .inl (T 3, n, qa fb)), (h, .inr (1, biF a q u β)), (a, .inl (T 0, 8, .inl α)), (q, .inl (T 0, 8, .inl κ)), (u, .inr (5, [.int (τ 0), .int (τ 1), .int (τ 2)]))] (fun _ => [(o, .inr (6, hsF ad lo)), (ad 7, .inr (0, [.int (kb), .ref rb, .int (nI (g))])), (rb, .inl (T 3, n, qa fb)), (h, .inr (1, biF a q u (upd β 12 1))), (a, .inl (T 0, 8, .inl α)), (q, .inl (T 0, 8, .inl κ)), (u, .inr (5, [.int (τ 0), .int (τ 1), .int (τ 2)]))]) [.ref o, .int (nI (i)), .int (nI (j)), .int 0, .int (fo)] (-1) 0 0 := by
  refine z_inIH (cc := cX5_blow) (maxL := 7) (rt := .int) (by decide +kernel) rfl (Nat.le_of_ble_eq_true rfl) ?_
  intro p e s m args below meth c sl9 A Q Z hW hnm Mz9 hl9 hret
  have Z : zC p s m args c cX5_blow 7 RX5 wsX5_blow D T A := Z
  have hx := Z.1.1
  have hb := Z.1.2.1
  have hts := Z.1.2.2.2.2
  have hin5 : ∀ w ∈ wsX50, w ∈ wsX5_blow := by decide +kernel
  have hinL : ∀ w ∈ wsJx4a65c0, w ∈ wsX5_blow := by decide +kernel
  have hin0 : ∀ w ∈ wsX00, w ∈ wsX5_blow := by decide +kernel
  have L125 := hts (.fieldLink RX5 125 "AnvilHouse$Billet" "cracked" "Z") (by decide +kernel)
  have hl9 : lv_has sl9 7 [(0, .ref o), (1, .int (nI (i))), (2, .int (nI (j))), (3, .int 0), (4, .int (fo))] := hl9
  refine lv_aload_n hx hb dX5_blow_0 rfl (lv_at hl9 0 rfl) ?_
  refine lv_iload_n hx hb dX5_blow_1 rfl (lv_at hl9 1 rfl) ?_
  refine z_callVr (As := [.int (nI (i))]) (rest := []) (wc := [(o, .inr (6, hsF ad lo)), (ad 7, .inr (0, [.int (kb), .ref rb, .int (nI (g))])), (rb, .inl (T 3, n, qa fb)), (h, .inr (1, biF a q u β))]) Z Mz9 (ch_billetAt l D T o ad lo kb rb n g fb h (biF a q u β) i hi hg hn hf) (cwV 1 hts gX5_blow_X5_billetAt rfl rfl rfl (by decide +kernel) ⟨Nat.le_of_ble_eq_true rfl, Nat.le_of_ble_eq_true rfl⟩) [0, 1, 2, 3] rfl (by decide) (fun _ j hj => rfl) (fun _ => Nat.le_refl _) (va_recv Z.2.1 Mz9.1 (ci := 6) (q0 := 0) rfl rfl) rfl hl9.1 (Nat.le_of_ble_eq_true rfl) dX5_blow_2 ⟨Nat.le_of_ble_eq_true rfl, Nat.le_of_ble_eq_true rfl⟩ rfl (fun _ Hp9 lc9 Mz9 => ?_)
  have Mz9 : zM D A s.heap [(o, .inr (6, hsF ad lo)), (ad 7, .inr (0, [.int (kb), .ref rb, .int (nI (g))])), (rb, .inl (T 3, n, qa fb)), (h, .inr (1, biF a q u β)), (a, .inl (T 0, 8, .inl α)), (q, .inl (T 0, 8, .inl κ)), (u, .inr (5, [.int (τ 0), .int (τ 1), .int (τ 2)]))] _ _ := Mz9
  refine lv_astore (lv' := [(5, .ref h), (0, .ref o), (1, .int (nI (i))), (2, .int (nI (j))), (3, .int 0), (4, .int (fo))]) hx hb dX5_blow_5 hl9 (by decide) rfl (fun sl9 hl9 => ?_)
  refine lv_iload_n hx hb dX5_blow_7 rfl (lv_at hl9 3 rfl) ?_
  refine z_callSv (As := [.int (nI (j))]) (rest := []) (wc := []) (wc' := []) Z Mz9 (ch_refuseNoSection l D T (j) hj) (va_cwS 1 hts gX5_blow_X5_refuseNoSection rfl rfl rfl (by decide +kernel) ⟨Nat.le_of_ble_eq_true rfl, Nat.le_of_ble_eq_true rfl⟩) [] rfl (by decide) (fun j hj => rfl) (Nat.le_refl _) rfl hl9.1 (Nat.le_of_ble_eq_true rfl) dX5_blow_8 ⟨Nat.le_of_ble_eq_true rfl, Nat.le_of_ble_eq_true rfl⟩ rfl (fun Hp9 lc9 Mz9 => ?_)
  have Mz9 : zM D A s.heap [(o, .inr (6, hsF ad lo)), (ad 7, .inr (0, [.int (kb), .ref rb, .int (nI (g))])), (rb, .inl (T 3, n, qa fb)), (h, .inr (1, biF a q u β)), (a, .inl (T 0, 8, .inl α)), (q, .inl (T 0, 8, .inl κ)), (u, .inr (5, [.int (τ 0), .int (τ 1), .int (τ 2)]))] _ _ := Mz9
  refine lv_iload_n hx hb dX5_blow_11 rfl (lv_at hl9 4 rfl) ?_
  refine lv_if_eq (tgt := 30) hx hb dX5_blow_12 (by decide) (fun _ => ?_) (fun h => absurd h (by decide))
  refine lv_iload hx hb dX5_blow_30 (lv_at hl9 5 rfl) ?_
  refine lv_iconst (v := 1) hx hb dX5_blow_32 (by decide) ?_
  refine lv_icmp_lt (tgt := 43) hx hb dX5_blow_33 (by decide) (fun h => absurd h (h1)) (fun _ => ?_)
  refine lv_iload hx hb dX5_blow_36 (lv_at hl9 5 rfl) ?_
  refine lv_bipush (v := 20) hx hb dX5_blow_38 (by decide) ?_
  refine lv_icmp_le (tgt := 53) hx hb dX5_blow_40 (by decide) (fun _ => ?_) (fun h => absurd h (fun z => z h2))
  refine lv_aload hx hb dX5_blow_53 (lv_at hl9 0 rfl) ?_
  refine z_getf Z Mz9 hin0 3 rfl rfl 12 (by decide) L125 rfl (v := .int (β 12)) rfl dX5_blow_55 ?_
  refine lv_if_eq (tgt := 71) hx hb dX5_blow_58 (by decide) (fun _ => ?_) (fun h => absurd h (fun z => z h12))
  refine lv_iload_n hx hb dX5_blow_71 rfl (lv_at hl9 3 rfl) ?_
  refine z_callSi (As := [.int (nI (j))]) (rest := []) Z.1 (cs_neighbourOf l (j) hj) (va_cwS 1 hts gX5_blow_X5_neighbourOf rfl rfl rfl (by decide +kernel) ⟨Nat.le_of_ble_eq_true rfl, Nat.le_of_ble_eq_true rfl⟩) rfl hl9.1 (Nat.le_of_ble_eq_true rfl) dX5_blow_72 ⟨Nat.le_of_ble_eq_true rfl, Nat.le_of_ble_eq_true rfl⟩ rfl ?_
  refine lv_istore (lv' := [(6, .int (nI (nbr j))), (5, .ref h), (0, .ref o), (1, .int (nI (i))), (2, .int (nI (j))), (3, .int 0), (4, .int (fo))]) hx hb dX5_blow_75 hl9 (by decide) rfl (fun sl9 hl9 => ?_)
  refine lv_iload_n hx hb dX5_blow_77 rfl (lv_at hl9 5 rfl) ?_
  refine lv_if_ne (tgt := 92) hx hb dX5_blow_78 (by decide) (fun h => absurd h (by decide)) (fun _ => ?_)
  refine lv_aload hx hb dX5_blow_81 (lv_at hl9 1 rfl) ?_
  refine lv_iload_n hx hb dX5_blow_83 rfl (lv_at hl9 4 rfl) ?_
  refine lv_iload hx hb dX5_blow_84 (lv_at hl9 0 rfl) ?_
  refine lv_iload hx hb dX5_blow_86 (lv_at hl9 6 rfl) ?_
  refine z_callViP (As := [.int (nI (j)), .int (nI (nbr j)), .int (fo)]) (rest := []) (rv := (-1)) (wc := biW h a q u T β α κ τ) zN_k (zW_N hW) Z Mz9 (zIN_P (cb_strike_crack l D T h a q u β α κ τ (j) (nbr j) fo (by first | exact hj | exact nbr_lt hj) (by first | exact hj | exact nbr_lt hj) h8)) (cwV 3 hts gX5_blow_X0_strike rfl rfl rfl (by decide +kernel) ⟨Nat.le_of_ble_eq_true rfl, Nat.le_of_ble_eq_true rfl⟩) [3, 4, 5, 6] rfl (by decide) (fun _ j hj => rfl) (fun _ => Nat.le_refl _) (va_recv Z.2.1 Mz9.1 (ci := 1) (q0 := 3) rfl rfl) rfl hl9.1 (Nat.le_of_ble_eq_true rfl) dX5_blow_88 ⟨Nat.le_of_ble_eq_true rfl, Nat.le_of_ble_eq_true rfl⟩ rfl (fun _ Hp9 lc9 Mz9 => ?_)
  have Mz9 : zM D A s.heap [(o, .inr (6, hsF ad lo)), (ad 7, .inr (0, [.int (kb), .ref rb, .int (nI (g))])), (rb, .inl (T 3, n, qa fb)), (h, .inr (1, biF a q u (upd β 12 1))), (a, .inl (T 0, 8, .inl α)), (q, .inl (T 0, 8, .inl κ)), (u, .inr (5, [.int (τ 0), .int (τ 1), .int (τ 2)]))] _ _ := Mz9
  exact hret _ _ _ _ _ sl9 _ _ () Mz9 (rfl) (rfl) (rfl) (Nat.le_of_ble_eq_true rfl) (Nat.le_of_ble_eq_true rfl) dX5_blow_91
set_option maxHeartbeats 4000000 in
set_option maxRecDepth 100000 in
theorem ch_blow_ok0 (l : Launch) (D : va_G) (T : Nat → ClassId) (ea mi : Nat) (sa : Nat → Nat) (o : Nat) (ad : Nat → Nat) (lo : Int32) (kb : Int32) (rb n g : Nat) (fb : Nat → Option Nat) (h a q u : Nat) (β α κ τ : Nat → Int32) (i : Nat) (hi : i < g) (hg : g ≤ n) (hn : n ≤ 40000) (hf : fb i = some h) (j : Nat) (hj : j < 8) (fo : Int32) (h1 : ¬ fo < 1) (h2 : fo ≤ 20) (h12 : β 12 = 0) (h8 : ¬ β 8 < 700) : ZIH l yX5_blow wsX5_blow (zrm 4 85) (zW ea mi sa) D T (S := Unit) [(o, .inr (6, hsF ad lo)), (ad 7, .inr (0, [.int (kb), .ref rb, .int (nI (g))])), (rb, .inl (T 3, n, qa fb)), (h, .inr (1, biF a q u β)), (a, .inl (T 0, 8, .inl α)), (q, .inl (T 0, 8, .inl κ)), (u, .inr (5, [.int (τ 0), .int (τ 1), .int (τ 2)]))] (fun _ => [(o, .inr (6, hsF ad lo)), (ad 7, .inr (0, [.int (kb), .ref rb, .int (nI (g))])), (rb, .inl (T 3, n, qa fb)), (h, .inr (1, biF a q u (upd (upd (upd (upd β 7 (clS (β 7))) 8 (wrm (clS (β 7)) (β 8))) 10 (grv (β 10) fo (β 8))) 11 (β 11 + lapv ((blA α j (nbr j) (imin fo (α j - 1))) j) ((blA α j (nbr j) (imin fo (α j - 1))) (nbr j)))))), (a, .inl (T 0, 8, .inl (blA α j (nbr j) (imin fo (α j - 1))))), (q, .inl (T 0, 8, .inl κ)), (u, .inr (5, [.int (τ 0), .int (τ 1), .int (τ 2)]))]) [.ref o, .int (nI (i)), .int (nI (j)), .int 0, .int (fo)] (imin fo (α j - 1)) 0 0 := by
  refine z_inIH (cc := cX5_blow) (maxL := 7) (rt := .int) (by decide +kernel) rfl (Nat.le_of_ble_eq_true rfl) ?_
  intro p e s m args below meth c sl9 A Q Z hW hnm Mz9 hl9 hret
  have Z : zC p s m args c cX5_blow 7 RX5 wsX5_blow D T A := Z
  have hx := Z.1.1
  have hb := Z.1.2.1
  have hts := Z.1.2.2.2.2
  have hin5 : ∀ w ∈ wsX50, w ∈ wsX5_blow := by decide +kernel
  have hinL : ∀ w ∈ wsJx4a65c0, w ∈ wsX5_blow := by decide +kernel
  have hin0 : ∀ w ∈ wsX00, w ∈ wsX5_blow := by decide +kernel
  have L125 := hts (.fieldLink RX5 125 "AnvilHouse$Billet" "cracked" "Z") (by decide +kernel)
  have hl9 : lv_has sl9 7 [(0, .ref o), (1, .int (nI (i))), (2, .int (nI (j))), (3, .int 0), (4, .int (fo))] := hl9
  refine lv_aload_n hx hb dX5_blow_0 rfl (lv_at hl9 0 rfl) ?_
  refine lv_iload_n hx hb dX5_blow_1 rfl (lv_at hl9 1 rfl) ?_
  refine z_callVr (As := [.int (nI (i))]) (rest := []) (wc := [(o, .inr (6, hsF ad lo)), (ad 7, .inr (0, [.int (kb), .ref rb, .int (nI (g))])), (rb, .inl (T 3, n, qa fb)), (h, .inr (1, biF a q u β))]) Z Mz9 (ch_billetAt l D T o ad lo kb rb n g fb h (biF a q u β) i hi hg hn hf) (cwV 1 hts gX5_blow_X5_billetAt rfl rfl rfl (by decide +kernel) ⟨Nat.le_of_ble_eq_true rfl, Nat.le_of_ble_eq_true rfl⟩) [0, 1, 2, 3] rfl (by decide) (fun _ j hj => rfl) (fun _ => Nat.le_refl _) (va_recv Z.2.1 Mz9.1 (ci := 6) (q0 := 0) rfl rfl) rfl hl9.1 (Nat.le_of_ble_eq_true rfl) dX5_blow_2 ⟨Nat.le_of_ble_eq_true rfl, Nat.le_of_ble_eq_true rfl⟩ rfl (fun _ Hp9 lc9 Mz9 => ?_)
  have Mz9 : zM D A s.heap [(o, .inr (6, hsF ad lo)), (ad 7, .inr (0, [.int (kb), .ref rb, .int (nI (g))])), (rb, .inl (T 3, n, qa fb)), (h, .inr (1, biF a q u β)), (a, .inl (T 0, 8, .inl α)), (q, .inl (T 0, 8, .inl κ)), (u, .inr (5, [.int (τ 0), .int (τ 1), .int (τ 2)]))] _ _ := Mz9
  refine lv_astore (lv' := [(5, .ref h), (0, .ref o), (1, .int (nI (i))), (2, .int (nI (j))), (3, .int 0), (4, .int (fo))]) hx hb dX5_blow_5 hl9 (by decide) rfl (fun sl9 hl9 => ?_)
  refine lv_iload_n hx hb dX5_blow_7 rfl (lv_at hl9 3 rfl) ?_
  refine z_callSv (As := [.int (nI (j))]) (rest := []) (wc := []) (wc' := []) Z Mz9 (ch_refuseNoSection l D T (j) hj) (va_cwS 1 hts gX5_blow_X5_refuseNoSection rfl rfl rfl (by decide +kernel) ⟨Nat.le_of_ble_eq_true rfl, Nat.le_of_ble_eq_true rfl⟩) [] rfl (by decide) (fun j hj => rfl) (Nat.le_refl _) rfl hl9.1 (Nat.le_of_ble_eq_true rfl) dX5_blow_8 ⟨Nat.le_of_ble_eq_true rfl, Nat.le_of_ble_eq_true rfl⟩ rfl (fun Hp9 lc9 Mz9 => ?_)
  have Mz9 : zM D A s.heap [(o, .inr (6, hsF ad lo)), (ad 7, .inr (0, [.int (kb), .ref rb, .int (nI (g))])), (rb, .inl (T 3, n, qa fb)), (h, .inr (1, biF a q u β)), (a, .inl (T 0, 8, .inl α)), (q, .inl (T 0, 8, .inl κ)), (u, .inr (5, [.int (τ 0), .int (τ 1), .int (τ 2)]))] _ _ := Mz9
  refine lv_iload_n hx hb dX5_blow_11 rfl (lv_at hl9 4 rfl) ?_
  refine lv_if_eq (tgt := 30) hx hb dX5_blow_12 (by decide) (fun _ => ?_) (fun h => absurd h (by decide))
  refine lv_iload hx hb dX5_blow_30 (lv_at hl9 5 rfl) ?_
  refine lv_iconst (v := 1) hx hb dX5_blow_32 (by decide) ?_
  refine lv_icmp_lt (tgt := 43) hx hb dX5_blow_33 (by decide) (fun h => absurd h (h1)) (fun _ => ?_)
  refine lv_iload hx hb dX5_blow_36 (lv_at hl9 5 rfl) ?_
  refine lv_bipush (v := 20) hx hb dX5_blow_38 (by decide) ?_
  refine lv_icmp_le (tgt := 53) hx hb dX5_blow_40 (by decide) (fun _ => ?_) (fun h => absurd h (fun z => z h2))
  refine lv_aload hx hb dX5_blow_53 (lv_at hl9 0 rfl) ?_
  refine z_getf Z Mz9 hin0 3 rfl rfl 12 (by decide) L125 rfl (v := .int (β 12)) rfl dX5_blow_55 ?_
  refine lv_if_eq (tgt := 71) hx hb dX5_blow_58 (by decide) (fun _ => ?_) (fun h => absurd h (fun z => z h12))
  refine lv_iload_n hx hb dX5_blow_71 rfl (lv_at hl9 3 rfl) ?_
  refine z_callSi (As := [.int (nI (j))]) (rest := []) Z.1 (cs_neighbourOf l (j) hj) (va_cwS 1 hts gX5_blow_X5_neighbourOf rfl rfl rfl (by decide +kernel) ⟨Nat.le_of_ble_eq_true rfl, Nat.le_of_ble_eq_true rfl⟩) rfl hl9.1 (Nat.le_of_ble_eq_true rfl) dX5_blow_72 ⟨Nat.le_of_ble_eq_true rfl, Nat.le_of_ble_eq_true rfl⟩ rfl ?_
  refine lv_istore (lv' := [(6, .int (nI (nbr j))), (5, .ref h), (0, .ref o), (1, .int (nI (i))), (2, .int (nI (j))), (3, .int 0), (4, .int (fo))]) hx hb dX5_blow_75 hl9 (by decide) rfl (fun sl9 hl9 => ?_)
  refine lv_iload_n hx hb dX5_blow_77 rfl (lv_at hl9 5 rfl) ?_
  refine lv_if_ne (tgt := 92) hx hb dX5_blow_78 (by decide) (fun h => absurd h (by decide)) (fun _ => ?_)
  refine lv_aload hx hb dX5_blow_81 (lv_at hl9 1 rfl) ?_
  refine lv_iload_n hx hb dX5_blow_83 rfl (lv_at hl9 4 rfl) ?_
  refine lv_iload hx hb dX5_blow_84 (lv_at hl9 0 rfl) ?_
  refine lv_iload hx hb dX5_blow_86 (lv_at hl9 6 rfl) ?_
  refine z_callViP (As := [.int (nI (j)), .int (nI (nbr j)), .int (fo)]) (rest := []) (rv := imin fo (α j - 1)) (wc := biW h a q u T β α κ τ) zN_k (zW_N hW) Z Mz9 (zIN_P (cb_strike_ok l D T h a q u β α κ τ (j) (nbr j) fo (by first | exact hj | exact nbr_lt hj) (by first | exact hj | exact nbr_lt hj) h8)) (cwV 3 hts gX5_blow_X0_strike rfl rfl rfl (by decide +kernel) ⟨Nat.le_of_ble_eq_true rfl, Nat.le_of_ble_eq_true rfl⟩) [3, 4, 5, 6] rfl (by decide) (fun _ j hj => rfl) (fun _ => Nat.le_refl _) (va_recv Z.2.1 Mz9.1 (ci := 1) (q0 := 3) rfl rfl) rfl hl9.1 (Nat.le_of_ble_eq_true rfl) dX5_blow_88 ⟨Nat.le_of_ble_eq_true rfl, Nat.le_of_ble_eq_true rfl⟩ rfl (fun _ Hp9 lc9 Mz9 => ?_)
  have Mz9 : zM D A s.heap [(o, .inr (6, hsF ad lo)), (ad 7, .inr (0, [.int (kb), .ref rb, .int (nI (g))])), (rb, .inl (T 3, n, qa fb)), (h, .inr (1, biF a q u (upd (upd (upd (upd β 7 (clS (β 7))) 8 (wrm (clS (β 7)) (β 8))) 10 (grv (β 10) fo (β 8))) 11 (β 11 + lapv ((blA α j (nbr j) (imin fo (α j - 1))) j) ((blA α j (nbr j) (imin fo (α j - 1))) (nbr j)))))), (a, .inl (T 0, 8, .inl (blA α j (nbr j) (imin fo (α j - 1))))), (q, .inl (T 0, 8, .inl κ)), (u, .inr (5, [.int (τ 0), .int (τ 1), .int (τ 2)]))] _ _ := Mz9
  exact hret _ _ _ _ _ sl9 _ _ () Mz9 (rfl) (rfl) (rfl) (Nat.le_of_ble_eq_true rfl) (Nat.le_of_ble_eq_true rfl) dX5_blow_91
set_option maxHeartbeats 4000000 in
set_option maxRecDepth 100000 in
theorem ch_blow_crack1 (l : Launch) (D : va_G) (T : Nat → ClassId) (ea mi : Nat) (sa : Nat → Nat) (o : Nat) (ad : Nat → Nat) (lo : Int32) (kb : Int32) (rb n g : Nat) (fb : Nat → Option Nat) (h a q u : Nat) (β α κ τ : Nat → Int32) (i : Nat) (hi : i < g) (hg : g ≤ n) (hn : n ≤ 40000) (hf : fb i = some h) (j : Nat) (hj : j < 8) (fo : Int32) (h1 : ¬ fo < 1) (h2 : fo ≤ 20) (h12 : β 12 = 0) (h8 : β 8 < 700) : ZIH l yX5_blow wsX5_blow (zrm 4 85) (zW ea mi sa) D T (S := Unit) [(o, .inr (6, hsF ad lo)), (ad 7, .inr (0, [.int (kb), .ref rb, .int (nI (g))])), (rb, .inl (T 3, n, qa fb)), (h, .inr (1, biF a q u β)), (a, .inl (T 0, 8, .inl α)), (q, .inl (T 0, 8, .inl κ)), (u, .inr (5, [.int (τ 0), .int (τ 1), .int (τ 2)]))] (fun _ => [(o, .inr (6, hsF ad lo)), (ad 7, .inr (0, [.int (kb), .ref rb, .int (nI (g))])), (rb, .inl (T 3, n, qa fb)), (h, .inr (1, biF a q u (upd β 12 1))), (a, .inl (T 0, 8, .inl α)), (q, .inl (T 0, 8, .inl κ)), (u, .inr (5, [.int (τ 0), .int (τ 1), .int (τ 2)]))]) [.ref o, .int (nI (i)), .int (nI (j)), .int 1, .int (fo)] (-1) 0 0 := by
  refine z_inIH (cc := cX5_blow) (maxL := 7) (rt := .int) (by decide +kernel) rfl (Nat.le_of_ble_eq_true rfl) ?_
  intro p e s m args below meth c sl9 A Q Z hW hnm Mz9 hl9 hret
  have Z : zC p s m args c cX5_blow 7 RX5 wsX5_blow D T A := Z
  have hx := Z.1.1
  have hb := Z.1.2.1
  have hts := Z.1.2.2.2.2
  have hin5 : ∀ w ∈ wsX50, w ∈ wsX5_blow := by decide +kernel
  have hinL : ∀ w ∈ wsJx4a65c0, w ∈ wsX5_blow := by decide +kernel
  have hin0 : ∀ w ∈ wsX00, w ∈ wsX5_blow := by decide +kernel
  have L125 := hts (.fieldLink RX5 125 "AnvilHouse$Billet" "cracked" "Z") (by decide +kernel)
  have hl9 : lv_has sl9 7 [(0, .ref o), (1, .int (nI (i))), (2, .int (nI (j))), (3, .int 1), (4, .int (fo))] := hl9
  refine lv_aload_n hx hb dX5_blow_0 rfl (lv_at hl9 0 rfl) ?_
  refine lv_iload_n hx hb dX5_blow_1 rfl (lv_at hl9 1 rfl) ?_
  refine z_callVr (As := [.int (nI (i))]) (rest := []) (wc := [(o, .inr (6, hsF ad lo)), (ad 7, .inr (0, [.int (kb), .ref rb, .int (nI (g))])), (rb, .inl (T 3, n, qa fb)), (h, .inr (1, biF a q u β))]) Z Mz9 (ch_billetAt l D T o ad lo kb rb n g fb h (biF a q u β) i hi hg hn hf) (cwV 1 hts gX5_blow_X5_billetAt rfl rfl rfl (by decide +kernel) ⟨Nat.le_of_ble_eq_true rfl, Nat.le_of_ble_eq_true rfl⟩) [0, 1, 2, 3] rfl (by decide) (fun _ j hj => rfl) (fun _ => Nat.le_refl _) (va_recv Z.2.1 Mz9.1 (ci := 6) (q0 := 0) rfl rfl) rfl hl9.1 (Nat.le_of_ble_eq_true rfl) dX5_blow_2 ⟨Nat.le_of_ble_eq_true rfl, Nat.le_of_ble_eq_true rfl⟩ rfl (fun _ Hp9 lc9 Mz9 => ?_)
  have Mz9 : zM D A s.heap [(o, .inr (6, hsF ad lo)), (ad 7, .inr (0, [.int (kb), .ref rb, .int (nI (g))])), (rb, .inl (T 3, n, qa fb)), (h, .inr (1, biF a q u β)), (a, .inl (T 0, 8, .inl α)), (q, .inl (T 0, 8, .inl κ)), (u, .inr (5, [.int (τ 0), .int (τ 1), .int (τ 2)]))] _ _ := Mz9
  refine lv_astore (lv' := [(5, .ref h), (0, .ref o), (1, .int (nI (i))), (2, .int (nI (j))), (3, .int 1), (4, .int (fo))]) hx hb dX5_blow_5 hl9 (by decide) rfl (fun sl9 hl9 => ?_)
  refine lv_iload_n hx hb dX5_blow_7 rfl (lv_at hl9 3 rfl) ?_
  refine z_callSv (As := [.int (nI (j))]) (rest := []) (wc := []) (wc' := []) Z Mz9 (ch_refuseNoSection l D T (j) hj) (va_cwS 1 hts gX5_blow_X5_refuseNoSection rfl rfl rfl (by decide +kernel) ⟨Nat.le_of_ble_eq_true rfl, Nat.le_of_ble_eq_true rfl⟩) [] rfl (by decide) (fun j hj => rfl) (Nat.le_refl _) rfl hl9.1 (Nat.le_of_ble_eq_true rfl) dX5_blow_8 ⟨Nat.le_of_ble_eq_true rfl, Nat.le_of_ble_eq_true rfl⟩ rfl (fun Hp9 lc9 Mz9 => ?_)
  have Mz9 : zM D A s.heap [(o, .inr (6, hsF ad lo)), (ad 7, .inr (0, [.int (kb), .ref rb, .int (nI (g))])), (rb, .inl (T 3, n, qa fb)), (h, .inr (1, biF a q u β)), (a, .inl (T 0, 8, .inl α)), (q, .inl (T 0, 8, .inl κ)), (u, .inr (5, [.int (τ 0), .int (τ 1), .int (τ 2)]))] _ _ := Mz9
  refine lv_iload_n hx hb dX5_blow_11 rfl (lv_at hl9 4 rfl) ?_
  refine lv_if_eq (tgt := 30) hx hb dX5_blow_12 (by decide) (fun h => absurd h (by decide)) (fun _ => ?_)
  refine lv_iload_n hx hb dX5_blow_15 rfl (lv_at hl9 4 rfl) ?_
  refine lv_iconst (v := 1) hx hb dX5_blow_16 (by decide) ?_
  refine lv_icmp_eq (tgt := 30) hx hb dX5_blow_17 (by decide) (fun _ => ?_) (fun h => absurd h (by decide))
  refine lv_iload hx hb dX5_blow_30 (lv_at hl9 5 rfl) ?_
  refine lv_iconst (v := 1) hx hb dX5_blow_32 (by decide) ?_
  refine lv_icmp_lt (tgt := 43) hx hb dX5_blow_33 (by decide) (fun h => absurd h (h1)) (fun _ => ?_)
  refine lv_iload hx hb dX5_blow_36 (lv_at hl9 5 rfl) ?_
  refine lv_bipush (v := 20) hx hb dX5_blow_38 (by decide) ?_
  refine lv_icmp_le (tgt := 53) hx hb dX5_blow_40 (by decide) (fun _ => ?_) (fun h => absurd h (fun z => z h2))
  refine lv_aload hx hb dX5_blow_53 (lv_at hl9 0 rfl) ?_
  refine z_getf Z Mz9 hin0 3 rfl rfl 12 (by decide) L125 rfl (v := .int (β 12)) rfl dX5_blow_55 ?_
  refine lv_if_eq (tgt := 71) hx hb dX5_blow_58 (by decide) (fun _ => ?_) (fun h => absurd h (fun z => z h12))
  refine lv_iload_n hx hb dX5_blow_71 rfl (lv_at hl9 3 rfl) ?_
  refine z_callSi (As := [.int (nI (j))]) (rest := []) Z.1 (cs_neighbourOf l (j) hj) (va_cwS 1 hts gX5_blow_X5_neighbourOf rfl rfl rfl (by decide +kernel) ⟨Nat.le_of_ble_eq_true rfl, Nat.le_of_ble_eq_true rfl⟩) rfl hl9.1 (Nat.le_of_ble_eq_true rfl) dX5_blow_72 ⟨Nat.le_of_ble_eq_true rfl, Nat.le_of_ble_eq_true rfl⟩ rfl ?_
  refine lv_istore (lv' := [(6, .int (nI (nbr j))), (5, .ref h), (0, .ref o), (1, .int (nI (i))), (2, .int (nI (j))), (3, .int 1), (4, .int (fo))]) hx hb dX5_blow_75 hl9 (by decide) rfl (fun sl9 hl9 => ?_)
  refine lv_iload_n hx hb dX5_blow_77 rfl (lv_at hl9 5 rfl) ?_
  refine lv_if_ne (tgt := 92) hx hb dX5_blow_78 (by decide) (fun _ => ?_) (fun h => absurd h (by decide))
  refine lv_aload hx hb dX5_blow_92 (lv_at hl9 1 rfl) ?_
  refine lv_iload hx hb dX5_blow_94 (lv_at hl9 0 rfl) ?_
  refine lv_iload_n hx hb dX5_blow_96 rfl (lv_at hl9 4 rfl) ?_
  refine lv_iload hx hb dX5_blow_97 (lv_at hl9 6 rfl) ?_
  refine z_callViP (As := [.int (nI (nbr j)), .int (nI (j)), .int (fo)]) (rest := []) (rv := (-1)) (wc := biW h a q u T β α κ τ) zN_k (zW_N hW) Z Mz9 (zIN_P (cb_strike_crack l D T h a q u β α κ τ (nbr j) (j) fo (by first | exact hj | exact nbr_lt hj) (by first | exact hj | exact nbr_lt hj) h8)) (cwV 3 hts gX5_blow_X0_strike rfl rfl rfl (by decide +kernel) ⟨Nat.le_of_ble_eq_true rfl, Nat.le_of_ble_eq_true rfl⟩) [3, 4, 5, 6] rfl (by decide) (fun _ j hj => rfl) (fun _ => Nat.le_refl _) (va_recv Z.2.1 Mz9.1 (ci := 1) (q0 := 3) rfl rfl) rfl hl9.1 (Nat.le_of_ble_eq_true rfl) dX5_blow_99 ⟨Nat.le_of_ble_eq_true rfl, Nat.le_of_ble_eq_true rfl⟩ rfl (fun _ Hp9 lc9 Mz9 => ?_)
  have Mz9 : zM D A s.heap [(o, .inr (6, hsF ad lo)), (ad 7, .inr (0, [.int (kb), .ref rb, .int (nI (g))])), (rb, .inl (T 3, n, qa fb)), (h, .inr (1, biF a q u (upd β 12 1))), (a, .inl (T 0, 8, .inl α)), (q, .inl (T 0, 8, .inl κ)), (u, .inr (5, [.int (τ 0), .int (τ 1), .int (τ 2)]))] _ _ := Mz9
  exact hret _ _ _ _ _ sl9 _ _ () Mz9 (rfl) (rfl) (rfl) (Nat.le_of_ble_eq_true rfl) (Nat.le_of_ble_eq_true rfl) dX5_blow_102
set_option maxHeartbeats 4000000 in
set_option maxRecDepth 100000 in
theorem ch_blow_ok1 (l : Launch) (D : va_G) (T : Nat → ClassId) (ea mi : Nat) (sa : Nat → Nat) (o : Nat) (ad : Nat → Nat) (lo : Int32) (kb : Int32) (rb n g : Nat) (fb : Nat → Option Nat) (h a q u : Nat) (β α κ τ : Nat → Int32) (i : Nat) (hi : i < g) (hg : g ≤ n) (hn : n ≤ 40000) (hf : fb i = some h) (j : Nat) (hj : j < 8) (fo : Int32) (h1 : ¬ fo < 1) (h2 : fo ≤ 20) (h12 : β 12 = 0) (h8 : ¬ β 8 < 700) : ZIH l yX5_blow wsX5_blow (zrm 4 85) (zW ea mi sa) D T (S := Unit) [(o, .inr (6, hsF ad lo)), (ad 7, .inr (0, [.int (kb), .ref rb, .int (nI (g))])), (rb, .inl (T 3, n, qa fb)), (h, .inr (1, biF a q u β)), (a, .inl (T 0, 8, .inl α)), (q, .inl (T 0, 8, .inl κ)), (u, .inr (5, [.int (τ 0), .int (τ 1), .int (τ 2)]))] (fun _ => [(o, .inr (6, hsF ad lo)), (ad 7, .inr (0, [.int (kb), .ref rb, .int (nI (g))])), (rb, .inl (T 3, n, qa fb)), (h, .inr (1, biF a q u (upd (upd (upd (upd β 7 (clS (β 7))) 8 (wrm (clS (β 7)) (β 8))) 10 (grv (β 10) fo (β 8))) 11 (β 11 + lapv ((blA α (nbr j) j (imin fo (α (nbr j) - 1))) (nbr j)) ((blA α (nbr j) j (imin fo (α (nbr j) - 1))) j))))), (a, .inl (T 0, 8, .inl (blA α (nbr j) j (imin fo (α (nbr j) - 1))))), (q, .inl (T 0, 8, .inl κ)), (u, .inr (5, [.int (τ 0), .int (τ 1), .int (τ 2)]))]) [.ref o, .int (nI (i)), .int (nI (j)), .int 1, .int (fo)] (imin fo (α (nbr j) - 1)) 0 0 := by
  refine z_inIH (cc := cX5_blow) (maxL := 7) (rt := .int) (by decide +kernel) rfl (Nat.le_of_ble_eq_true rfl) ?_
  intro p e s m args below meth c sl9 A Q Z hW hnm Mz9 hl9 hret
  have Z : zC p s m args c cX5_blow 7 RX5 wsX5_blow D T A := Z
  have hx := Z.1.1
  have hb := Z.1.2.1
  have hts := Z.1.2.2.2.2
  have hin5 : ∀ w ∈ wsX50, w ∈ wsX5_blow := by decide +kernel
  have hinL : ∀ w ∈ wsJx4a65c0, w ∈ wsX5_blow := by decide +kernel
  have hin0 : ∀ w ∈ wsX00, w ∈ wsX5_blow := by decide +kernel
  have L125 := hts (.fieldLink RX5 125 "AnvilHouse$Billet" "cracked" "Z") (by decide +kernel)
  have hl9 : lv_has sl9 7 [(0, .ref o), (1, .int (nI (i))), (2, .int (nI (j))), (3, .int 1), (4, .int (fo))] := hl9
  refine lv_aload_n hx hb dX5_blow_0 rfl (lv_at hl9 0 rfl) ?_
  refine lv_iload_n hx hb dX5_blow_1 rfl (lv_at hl9 1 rfl) ?_
  refine z_callVr (As := [.int (nI (i))]) (rest := []) (wc := [(o, .inr (6, hsF ad lo)), (ad 7, .inr (0, [.int (kb), .ref rb, .int (nI (g))])), (rb, .inl (T 3, n, qa fb)), (h, .inr (1, biF a q u β))]) Z Mz9 (ch_billetAt l D T o ad lo kb rb n g fb h (biF a q u β) i hi hg hn hf) (cwV 1 hts gX5_blow_X5_billetAt rfl rfl rfl (by decide +kernel) ⟨Nat.le_of_ble_eq_true rfl, Nat.le_of_ble_eq_true rfl⟩) [0, 1, 2, 3] rfl (by decide) (fun _ j hj => rfl) (fun _ => Nat.le_refl _) (va_recv Z.2.1 Mz9.1 (ci := 6) (q0 := 0) rfl rfl) rfl hl9.1 (Nat.le_of_ble_eq_true rfl) dX5_blow_2 ⟨Nat.le_of_ble_eq_true rfl, Nat.le_of_ble_eq_true rfl⟩ rfl (fun _ Hp9 lc9 Mz9 => ?_)
  have Mz9 : zM D A s.heap [(o, .inr (6, hsF ad lo)), (ad 7, .inr (0, [.int (kb), .ref rb, .int (nI (g))])), (rb, .inl (T 3, n, qa fb)), (h, .inr (1, biF a q u β)), (a, .inl (T 0, 8, .inl α)), (q, .inl (T 0, 8, .inl κ)), (u, .inr (5, [.int (τ 0), .int (τ 1), .int (τ 2)]))] _ _ := Mz9
  refine lv_astore (lv' := [(5, .ref h), (0, .ref o), (1, .int (nI (i))), (2, .int (nI (j))), (3, .int 1), (4, .int (fo))]) hx hb dX5_blow_5 hl9 (by decide) rfl (fun sl9 hl9 => ?_)
  refine lv_iload_n hx hb dX5_blow_7 rfl (lv_at hl9 3 rfl) ?_
  refine z_callSv (As := [.int (nI (j))]) (rest := []) (wc := []) (wc' := []) Z Mz9 (ch_refuseNoSection l D T (j) hj) (va_cwS 1 hts gX5_blow_X5_refuseNoSection rfl rfl rfl (by decide +kernel) ⟨Nat.le_of_ble_eq_true rfl, Nat.le_of_ble_eq_true rfl⟩) [] rfl (by decide) (fun j hj => rfl) (Nat.le_refl _) rfl hl9.1 (Nat.le_of_ble_eq_true rfl) dX5_blow_8 ⟨Nat.le_of_ble_eq_true rfl, Nat.le_of_ble_eq_true rfl⟩ rfl (fun Hp9 lc9 Mz9 => ?_)
  have Mz9 : zM D A s.heap [(o, .inr (6, hsF ad lo)), (ad 7, .inr (0, [.int (kb), .ref rb, .int (nI (g))])), (rb, .inl (T 3, n, qa fb)), (h, .inr (1, biF a q u β)), (a, .inl (T 0, 8, .inl α)), (q, .inl (T 0, 8, .inl κ)), (u, .inr (5, [.int (τ 0), .int (τ 1), .int (τ 2)]))] _ _ := Mz9
  refine lv_iload_n hx hb dX5_blow_11 rfl (lv_at hl9 4 rfl) ?_
  refine lv_if_eq (tgt := 30) hx hb dX5_blow_12 (by decide) (fun h => absurd h (by decide)) (fun _ => ?_)
  refine lv_iload_n hx hb dX5_blow_15 rfl (lv_at hl9 4 rfl) ?_
  refine lv_iconst (v := 1) hx hb dX5_blow_16 (by decide) ?_
  refine lv_icmp_eq (tgt := 30) hx hb dX5_blow_17 (by decide) (fun _ => ?_) (fun h => absurd h (by decide))
  refine lv_iload hx hb dX5_blow_30 (lv_at hl9 5 rfl) ?_
  refine lv_iconst (v := 1) hx hb dX5_blow_32 (by decide) ?_
  refine lv_icmp_lt (tgt := 43) hx hb dX5_blow_33 (by decide) (fun h => absurd h (h1)) (fun _ => ?_)
  refine lv_iload hx hb dX5_blow_36 (lv_at hl9 5 rfl) ?_
  refine lv_bipush (v := 20) hx hb dX5_blow_38 (by decide) ?_
  refine lv_icmp_le (tgt := 53) hx hb dX5_blow_40 (by decide) (fun _ => ?_) (fun h => absurd h (fun z => z h2))
  refine lv_aload hx hb dX5_blow_53 (lv_at hl9 0 rfl) ?_
  refine z_getf Z Mz9 hin0 3 rfl rfl 12 (by decide) L125 rfl (v := .int (β 12)) rfl dX5_blow_55 ?_
  refine lv_if_eq (tgt := 71) hx hb dX5_blow_58 (by decide) (fun _ => ?_) (fun h => absurd h (fun z => z h12))
  refine lv_iload_n hx hb dX5_blow_71 rfl (lv_at hl9 3 rfl) ?_
  refine z_callSi (As := [.int (nI (j))]) (rest := []) Z.1 (cs_neighbourOf l (j) hj) (va_cwS 1 hts gX5_blow_X5_neighbourOf rfl rfl rfl (by decide +kernel) ⟨Nat.le_of_ble_eq_true rfl, Nat.le_of_ble_eq_true rfl⟩) rfl hl9.1 (Nat.le_of_ble_eq_true rfl) dX5_blow_72 ⟨Nat.le_of_ble_eq_true rfl, Nat.le_of_ble_eq_true rfl⟩ rfl ?_
  refine lv_istore (lv' := [(6, .int (nI (nbr j))), (5, .ref h), (0, .ref o), (1, .int (nI (i))), (2, .int (nI (j))), (3, .int 1), (4, .int (fo))]) hx hb dX5_blow_75 hl9 (by decide) rfl (fun sl9 hl9 => ?_)
  refine lv_iload_n hx hb dX5_blow_77 rfl (lv_at hl9 5 rfl) ?_
  refine lv_if_ne (tgt := 92) hx hb dX5_blow_78 (by decide) (fun _ => ?_) (fun h => absurd h (by decide))
  refine lv_aload hx hb dX5_blow_92 (lv_at hl9 1 rfl) ?_
  refine lv_iload hx hb dX5_blow_94 (lv_at hl9 0 rfl) ?_
  refine lv_iload_n hx hb dX5_blow_96 rfl (lv_at hl9 4 rfl) ?_
  refine lv_iload hx hb dX5_blow_97 (lv_at hl9 6 rfl) ?_
  refine z_callViP (As := [.int (nI (nbr j)), .int (nI (j)), .int (fo)]) (rest := []) (rv := imin fo (α (nbr j) - 1)) (wc := biW h a q u T β α κ τ) zN_k (zW_N hW) Z Mz9 (zIN_P (cb_strike_ok l D T h a q u β α κ τ (nbr j) (j) fo (by first | exact hj | exact nbr_lt hj) (by first | exact hj | exact nbr_lt hj) h8)) (cwV 3 hts gX5_blow_X0_strike rfl rfl rfl (by decide +kernel) ⟨Nat.le_of_ble_eq_true rfl, Nat.le_of_ble_eq_true rfl⟩) [3, 4, 5, 6] rfl (by decide) (fun _ j hj => rfl) (fun _ => Nat.le_refl _) (va_recv Z.2.1 Mz9.1 (ci := 1) (q0 := 3) rfl rfl) rfl hl9.1 (Nat.le_of_ble_eq_true rfl) dX5_blow_99 ⟨Nat.le_of_ble_eq_true rfl, Nat.le_of_ble_eq_true rfl⟩ rfl (fun _ Hp9 lc9 Mz9 => ?_)
  have Mz9 : zM D A s.heap [(o, .inr (6, hsF ad lo)), (ad 7, .inr (0, [.int (kb), .ref rb, .int (nI (g))])), (rb, .inl (T 3, n, qa fb)), (h, .inr (1, biF a q u (upd (upd (upd (upd β 7 (clS (β 7))) 8 (wrm (clS (β 7)) (β 8))) 10 (grv (β 10) fo (β 8))) 11 (β 11 + lapv ((blA α (nbr j) j (imin fo (α (nbr j) - 1))) (nbr j)) ((blA α (nbr j) j (imin fo (α (nbr j) - 1))) j))))), (a, .inl (T 0, 8, .inl (blA α (nbr j) j (imin fo (α (nbr j) - 1))))), (q, .inl (T 0, 8, .inl κ)), (u, .inr (5, [.int (τ 0), .int (τ 1), .int (τ 2)]))] _ _ := Mz9
  exact hret _ _ _ _ _ sl9 _ _ () Mz9 (rfl) (rfl) (rfl) (Nat.le_of_ble_eq_true rfl) (Nat.le_of_ble_eq_true rfl) dX5_blow_102
set_option maxHeartbeats 4000000 in
set_option maxRecDepth 100000 in
theorem ch_blow_b (l : Launch) (hfl : l.stackTraces = false) (D : va_G) (T : Nat → ClassId) (ea mi : Nat) (sa : Nat → Nat) (o : Nat) (ad : Nat → Nat) (lo : Int32) (kb : Int32) (rb g : Nat) (v : Int32) (t kd fo : Int32) (hv9 : v < 0 ∨ nI g ≤ v) : ZB l yX5_blow wsX5_blow (zrmc 7 103 1 6) (zW ea mi sa) D T [(o, .inr (6, hsF ad lo)), (ad 7, .inr (0, [.int (kb), .ref rb, .int (nI (g))]))] [.ref o, .int (v), .int (t), .int (kd), .int (fo)] "java/lang/IndexOutOfBoundsException" := by
  refine z_inB (cc := cX5_blow) (maxL := 7) (ret := (some .int)) (by decide +kernel) rfl (Nat.le_of_ble_eq_true rfl) ?_
  intro p e s m args below meth c sl9 A hA Z hW Mz9 hl9 hE
  have Z : zC p s m args c cX5_blow 7 RX5 wsX5_blow D T A := Z
  have hx := Z.1.1
  have hb := Z.1.2.1
  have hts := Z.1.2.2.2.2
  have hin5 : ∀ w ∈ wsX50, w ∈ wsX5_blow := by decide +kernel
  have hinL : ∀ w ∈ wsJx4a65c0, w ∈ wsX5_blow := by decide +kernel
  have hin0 : ∀ w ∈ wsX00, w ∈ wsX5_blow := by decide +kernel
  have L125 := hts (.fieldLink RX5 125 "AnvilHouse$Billet" "cracked" "Z") (by decide +kernel)
  have hl9 : lv_has sl9 7 [(0, .ref o), (1, .int (v)), (2, .int (t)), (3, .int (kd)), (4, .int (fo))] := hl9
  refine lv_aload_n hx hb dX5_blow_0 rfl (lv_at hl9 0 rfl) ?_
  refine lv_iload_n hx hb dX5_blow_1 rfl (lv_at hl9 1 rfl) ?_
  exact z_callB (As := [.int (v)]) (rest := []) (wc := [(o, .inr (6, hsF ad lo)), (ad 7, .inr (0, [.int (kb), .ref rb, .int (nI (g))]))]) (zW_k ea mi sa) hW Z Mz9 hA hE (ch_billetAt_bad l hfl D T ea mi sa o ad lo kb rb g v hv9) (cwV 1 hts gX5_blow_X5_billetAt rfl rfl rfl (by decide +kernel) ⟨Nat.le_of_ble_eq_true rfl, Nat.le_of_ble_eq_true rfl⟩) [0, 1] rfl (by decide) (va_recv Z.2.1 Mz9.1 (ci := 6) (q0 := 0) rfl rfl) rfl hl9.1 (Nat.le_of_ble_eq_true rfl) dX5_blow_2 ⟨Nat.le_of_ble_eq_true rfl, Nat.le_of_ble_eq_true rfl⟩ ⟨Nat.le_of_ble_eq_true rfl, Nat.le_of_ble_eq_true rfl⟩ rfl rfl
set_option maxHeartbeats 4000000 in
set_option maxRecDepth 100000 in
theorem ch_blow_s (l : Launch) (hfl : l.stackTraces = false) (D : va_G) (T : Nat → ClassId) (ea mi : Nat) (sa : Nat → Nat) (o : Nat) (ad : Nat → Nat) (lo : Int32) (kb : Int32) (rb n g : Nat) (fb : Nat → Option Nat) (h a q u : Nat) (β : Nat → Int32) (i : Nat) (hi : i < g) (hg : g ≤ n) (hn : n ≤ 40000) (hf : fb i = some h) (v : Int32) (kd fo : Int32) (hv9 : v < 0 ∨ 8 ≤ v) : ZB l yX5_blow wsX5_blow (zrmc 7 102 1 6) (zW ea mi sa) D T [(o, .inr (6, hsF ad lo)), (ad 7, .inr (0, [.int (kb), .ref rb, .int (nI (g))])), (rb, .inl (T 3, n, qa fb)), (h, .inr (1, biF a q u β))] [.ref o, .int (nI (i)), .int (v), .int (kd), .int (fo)] "java/lang/IndexOutOfBoundsException" := by
  refine z_inB (cc := cX5_blow) (maxL := 7) (ret := (some .int)) (by decide +kernel) rfl (Nat.le_of_ble_eq_true rfl) ?_
  intro p e s m args below meth c sl9 A hA Z hW Mz9 hl9 hE
  have Z : zC p s m args c cX5_blow 7 RX5 wsX5_blow D T A := Z
  have hx := Z.1.1
  have hb := Z.1.2.1
  have hts := Z.1.2.2.2.2
  have hin5 : ∀ w ∈ wsX50, w ∈ wsX5_blow := by decide +kernel
  have hinL : ∀ w ∈ wsJx4a65c0, w ∈ wsX5_blow := by decide +kernel
  have hin0 : ∀ w ∈ wsX00, w ∈ wsX5_blow := by decide +kernel
  have L125 := hts (.fieldLink RX5 125 "AnvilHouse$Billet" "cracked" "Z") (by decide +kernel)
  have hl9 : lv_has sl9 7 [(0, .ref o), (1, .int (nI (i))), (2, .int (v)), (3, .int (kd)), (4, .int (fo))] := hl9
  refine lv_aload_n hx hb dX5_blow_0 rfl (lv_at hl9 0 rfl) ?_
  refine lv_iload_n hx hb dX5_blow_1 rfl (lv_at hl9 1 rfl) ?_
  refine z_callVr (As := [.int (nI (i))]) (rest := []) (wc := [(o, .inr (6, hsF ad lo)), (ad 7, .inr (0, [.int (kb), .ref rb, .int (nI (g))])), (rb, .inl (T 3, n, qa fb)), (h, .inr (1, biF a q u β))]) Z Mz9 (ch_billetAt l D T o ad lo kb rb n g fb h (biF a q u β) i hi hg hn hf) (cwV 1 hts gX5_blow_X5_billetAt rfl rfl rfl (by decide +kernel) ⟨Nat.le_of_ble_eq_true rfl, Nat.le_of_ble_eq_true rfl⟩) [0, 1, 2, 3] rfl (by decide) (fun _ j hj => rfl) (fun _ => Nat.le_refl _) (va_recv Z.2.1 Mz9.1 (ci := 6) (q0 := 0) rfl rfl) rfl hl9.1 (Nat.le_of_ble_eq_true rfl) dX5_blow_2 ⟨Nat.le_of_ble_eq_true rfl, Nat.le_of_ble_eq_true rfl⟩ rfl (fun _ Hp9 lc9 Mz9 => ?_)
  have Mz9 : zM D A s.heap [(o, .inr (6, hsF ad lo)), (ad 7, .inr (0, [.int (kb), .ref rb, .int (nI (g))])), (rb, .inl (T 3, n, qa fb)), (h, .inr (1, biF a q u β))] _ _ := Mz9
  refine lv_astore (lv' := [(5, .ref h), (0, .ref o), (1, .int (nI (i))), (2, .int (v)), (3, .int (kd)), (4, .int (fo))]) hx hb dX5_blow_5 hl9 (by decide) rfl (fun sl9 hl9 => ?_)
  refine lv_iload_n hx hb dX5_blow_7 rfl (lv_at hl9 3 rfl) ?_
  exact z_callSB (As := [.int (v)]) (rest := []) (wc := []) (zW_k ea mi sa) hW Z Mz9 hA hE (ch_refuseNoSection_bad l hfl D T ea mi sa v hv9) (va_cwS 1 hts gX5_blow_X5_refuseNoSection rfl rfl rfl (by decide +kernel) ⟨Nat.le_of_ble_eq_true rfl, Nat.le_of_ble_eq_true rfl⟩) [] rfl (by decide) rfl hl9.1 (Nat.le_of_ble_eq_true rfl) dX5_blow_8 ⟨Nat.le_of_ble_eq_true rfl, Nat.le_of_ble_eq_true rfl⟩ ⟨Nat.le_of_ble_eq_true rfl, Nat.le_of_ble_eq_true rfl⟩ rfl rfl
set_option maxHeartbeats 4000000 in
set_option maxRecDepth 100000 in
theorem ch_blow_a (l : Launch) (hfl : l.stackTraces = false) (D : va_G) (T : Nat → ClassId) (ea mi : Nat) (sa : Nat → Nat) (o : Nat) (ad : Nat → Nat) (lo : Int32) (kb : Int32) (rb n g : Nat) (fb : Nat → Option Nat) (h a q u : Nat) (β : Nat → Int32) (i : Nat) (hi : i < g) (hg : g ≤ n) (hn : n ≤ 40000) (hf : fb i = some h) (j : Nat) (hj : j < 8) (kd fo : Int32) (hv9 : (¬ kd = 0 ∧ ¬ kd = 1) ∨ fo < 1 ∨ 20 < fo) : ZB l yX5_blow wsX5_blow (zrmc 6 85 1 6) (zW ea mi sa) D T [(o, .inr (6, hsF ad lo)), (ad 7, .inr (0, [.int (kb), .ref rb, .int (nI (g))])), (rb, .inl (T 3, n, qa fb)), (h, .inr (1, biF a q u β))] [.ref o, .int (nI (i)), .int (nI (j)), .int (kd), .int (fo)] "java/lang/IllegalArgumentException" := by
  refine z_inB (cc := cX5_blow) (maxL := 7) (ret := (some .int)) (by decide +kernel) rfl (Nat.le_of_ble_eq_true rfl) ?_
  intro p e s m args below meth c sl9 A hA Z hW Mz9 hl9 hE
  have Z : zC p s m args c cX5_blow 7 RX5 wsX5_blow D T A := Z
  have hx := Z.1.1
  have hb := Z.1.2.1
  have hts := Z.1.2.2.2.2
  have hin5 : ∀ w ∈ wsX50, w ∈ wsX5_blow := by decide +kernel
  have hinL : ∀ w ∈ wsJx4a65c0, w ∈ wsX5_blow := by decide +kernel
  have hin0 : ∀ w ∈ wsX00, w ∈ wsX5_blow := by decide +kernel
  have hX9 : ∀ w ∈ Cond.classLink RX5 51 "java/lang/IllegalArgumentException" :: Cond.initialized "java/lang/IllegalArgumentException" :: (vx_atS RX5 55 "java/lang/IllegalArgumentException" zNm).filter goodWord, w ∈ wsX5_blow := by decide +kernel
  have L125 := hts (.fieldLink RX5 125 "AnvilHouse$Billet" "cracked" "Z") (by decide +kernel)
  have hl9 : lv_has sl9 7 [(0, .ref o), (1, .int (nI (i))), (2, .int (nI (j))), (3, .int (kd)), (4, .int (fo))] := hl9
  refine lv_aload_n hx hb dX5_blow_0 rfl (lv_at hl9 0 rfl) ?_
  refine lv_iload_n hx hb dX5_blow_1 rfl (lv_at hl9 1 rfl) ?_
  refine z_callVr (As := [.int (nI (i))]) (rest := []) (wc := [(o, .inr (6, hsF ad lo)), (ad 7, .inr (0, [.int (kb), .ref rb, .int (nI (g))])), (rb, .inl (T 3, n, qa fb)), (h, .inr (1, biF a q u β))]) Z Mz9 (ch_billetAt l D T o ad lo kb rb n g fb h (biF a q u β) i hi hg hn hf) (cwV 1 hts gX5_blow_X5_billetAt rfl rfl rfl (by decide +kernel) ⟨Nat.le_of_ble_eq_true rfl, Nat.le_of_ble_eq_true rfl⟩) [0, 1, 2, 3] rfl (by decide) (fun _ j hj => rfl) (fun _ => Nat.le_refl _) (va_recv Z.2.1 Mz9.1 (ci := 6) (q0 := 0) rfl rfl) rfl hl9.1 (Nat.le_of_ble_eq_true rfl) dX5_blow_2 ⟨Nat.le_of_ble_eq_true rfl, Nat.le_of_ble_eq_true rfl⟩ rfl (fun _ Hp9 lc9 Mz9 => ?_)
  have Mz9 : zM D A s.heap [(o, .inr (6, hsF ad lo)), (ad 7, .inr (0, [.int (kb), .ref rb, .int (nI (g))])), (rb, .inl (T 3, n, qa fb)), (h, .inr (1, biF a q u β))] _ _ := Mz9
  refine lv_astore (lv' := [(5, .ref h), (0, .ref o), (1, .int (nI (i))), (2, .int (nI (j))), (3, .int (kd)), (4, .int (fo))]) hx hb dX5_blow_5 hl9 (by decide) rfl (fun sl9 hl9 => ?_)
  refine lv_iload_n hx hb dX5_blow_7 rfl (lv_at hl9 3 rfl) ?_
  refine z_callSv (As := [.int (nI (j))]) (rest := []) (wc := []) (wc' := []) Z Mz9 (ch_refuseNoSection l D T (j) hj) (va_cwS 1 hts gX5_blow_X5_refuseNoSection rfl rfl rfl (by decide +kernel) ⟨Nat.le_of_ble_eq_true rfl, Nat.le_of_ble_eq_true rfl⟩) [] rfl (by decide) (fun j hj => rfl) (Nat.le_refl _) rfl hl9.1 (Nat.le_of_ble_eq_true rfl) dX5_blow_8 ⟨Nat.le_of_ble_eq_true rfl, Nat.le_of_ble_eq_true rfl⟩ rfl (fun Hp9 lc9 Mz9 => ?_)
  have Mz9 : zM D A s.heap [(o, .inr (6, hsF ad lo)), (ad 7, .inr (0, [.int (kb), .ref rb, .int (nI (g))])), (rb, .inl (T 3, n, qa fb)), (h, .inr (1, biF a q u β))] _ _ := Mz9
  refine lv_iload_n hx hb dX5_blow_11 rfl (lv_at hl9 4 rfl) ?_
  refine lv_if_eq (tgt := 30) hx hb dX5_blow_12 (by decide) (fun c_1 => ?_) (fun c_1 => ?_)
  ·
    refine lv_iload hx hb dX5_blow_30 (lv_at hl9 5 rfl) ?_
    refine lv_iconst (v := 1) hx hb dX5_blow_32 (by decide) ?_
    refine lv_icmp_lt (tgt := 43) hx hb dX5_blow_33 (by decide) (fun c_2 => ?_) (fun c_2 => ?_)
    ·
      exact z_throw Z hW Mz9 hA hE hl9.1 hfl zThr_A hX9 (is := 176) (text := "a force is 1 to 20") (by decide +kernel) dX5_blow_43 dX5_blow_46 dX5_blow_47 dX5_blow_49 dX5_blow_52 (Nat.le_of_ble_eq_true rfl) (Nat.le_of_ble_eq_true rfl) ⟨Nat.le_of_ble_eq_true rfl, Nat.le_of_ble_eq_true rfl⟩ ⟨Nat.le_of_ble_eq_true rfl, Nat.le_of_ble_eq_true rfl⟩ rfl
    ·
      refine lv_iload hx hb dX5_blow_36 (lv_at hl9 5 rfl) ?_
      refine lv_bipush (v := 20) hx hb dX5_blow_38 (by decide) ?_
      refine lv_icmp_le (tgt := 53) hx hb dX5_blow_40 (by decide) (fun c_3 => ?_) (fun c_3 => ?_)
      ·
        exact False.elim (by rcases hv9 with ⟨h1, h2⟩ | h | h <;> first |  exact absurd h c_1 | exact absurd c_1 h | exact absurd h (Int32.not_lt.mpr c_1) | exact absurd (Int32.not_le.mp c_1) (Int32.not_lt.mpr h) | exact absurd c_1 (Int32.not_lt.mpr h) | exact absurd h c_2 | exact absurd c_2 h | exact absurd h (Int32.not_lt.mpr c_2) | exact absurd (Int32.not_le.mp c_2) (Int32.not_lt.mpr h) | exact absurd c_2 (Int32.not_lt.mpr h) | exact absurd h c_3 | exact absurd c_3 h | exact absurd h (Int32.not_lt.mpr c_3) | exact absurd (Int32.not_le.mp c_3) (Int32.not_lt.mpr h) | exact absurd c_3 (Int32.not_lt.mpr h) | exact absurd c_1 h1 | exact absurd h1 c_1 | exact absurd c_1 h2 | exact absurd h2 c_1 | exact absurd c_2 h1 | exact absurd h1 c_2 | exact absurd c_2 h2 | exact absurd h2 c_2 | exact absurd c_3 h1 | exact absurd h1 c_3 | exact absurd c_3 h2 | exact absurd h2 c_3)
      ·
        exact z_throw Z hW Mz9 hA hE hl9.1 hfl zThr_A hX9 (is := 176) (text := "a force is 1 to 20") (by decide +kernel) dX5_blow_43 dX5_blow_46 dX5_blow_47 dX5_blow_49 dX5_blow_52 (Nat.le_of_ble_eq_true rfl) (Nat.le_of_ble_eq_true rfl) ⟨Nat.le_of_ble_eq_true rfl, Nat.le_of_ble_eq_true rfl⟩ ⟨Nat.le_of_ble_eq_true rfl, Nat.le_of_ble_eq_true rfl⟩ rfl
  ·
    refine lv_iload_n hx hb dX5_blow_15 rfl (lv_at hl9 4 rfl) ?_
    refine lv_iconst (v := 1) hx hb dX5_blow_16 (by decide) ?_
    refine lv_icmp_eq (tgt := 30) hx hb dX5_blow_17 (by decide) (fun c_4 => ?_) (fun c_4 => ?_)
    ·
      refine lv_iload hx hb dX5_blow_30 (lv_at hl9 5 rfl) ?_
      refine lv_iconst (v := 1) hx hb dX5_blow_32 (by decide) ?_
      refine lv_icmp_lt (tgt := 43) hx hb dX5_blow_33 (by decide) (fun c_5 => ?_) (fun c_5 => ?_)
      ·
        exact z_throw Z hW Mz9 hA hE hl9.1 hfl zThr_A hX9 (is := 176) (text := "a force is 1 to 20") (by decide +kernel) dX5_blow_43 dX5_blow_46 dX5_blow_47 dX5_blow_49 dX5_blow_52 (Nat.le_of_ble_eq_true rfl) (Nat.le_of_ble_eq_true rfl) ⟨Nat.le_of_ble_eq_true rfl, Nat.le_of_ble_eq_true rfl⟩ ⟨Nat.le_of_ble_eq_true rfl, Nat.le_of_ble_eq_true rfl⟩ rfl
      ·
        refine lv_iload hx hb dX5_blow_36 (lv_at hl9 5 rfl) ?_
        refine lv_bipush (v := 20) hx hb dX5_blow_38 (by decide) ?_
        refine lv_icmp_le (tgt := 53) hx hb dX5_blow_40 (by decide) (fun c_6 => ?_) (fun c_6 => ?_)
        ·
          exact False.elim (by rcases hv9 with ⟨h1, h2⟩ | h | h <;> first |  exact absurd h c_1 | exact absurd c_1 h | exact absurd h (Int32.not_lt.mpr c_1) | exact absurd (Int32.not_le.mp c_1) (Int32.not_lt.mpr h) | exact absurd c_1 (Int32.not_lt.mpr h) | exact absurd h c_4 | exact absurd c_4 h | exact absurd h (Int32.not_lt.mpr c_4) | exact absurd (Int32.not_le.mp c_4) (Int32.not_lt.mpr h) | exact absurd c_4 (Int32.not_lt.mpr h) | exact absurd h c_5 | exact absurd c_5 h | exact absurd h (Int32.not_lt.mpr c_5) | exact absurd (Int32.not_le.mp c_5) (Int32.not_lt.mpr h) | exact absurd c_5 (Int32.not_lt.mpr h) | exact absurd h c_6 | exact absurd c_6 h | exact absurd h (Int32.not_lt.mpr c_6) | exact absurd (Int32.not_le.mp c_6) (Int32.not_lt.mpr h) | exact absurd c_6 (Int32.not_lt.mpr h) | exact absurd c_1 h1 | exact absurd h1 c_1 | exact absurd c_1 h2 | exact absurd h2 c_1 | exact absurd c_4 h1 | exact absurd h1 c_4 | exact absurd c_4 h2 | exact absurd h2 c_4 | exact absurd c_5 h1 | exact absurd h1 c_5 | exact absurd c_5 h2 | exact absurd h2 c_5 | exact absurd c_6 h1 | exact absurd h1 c_6 | exact absurd c_6 h2 | exact absurd h2 c_6)
        ·
          exact z_throw Z hW Mz9 hA hE hl9.1 hfl zThr_A hX9 (is := 176) (text := "a force is 1 to 20") (by decide +kernel) dX5_blow_43 dX5_blow_46 dX5_blow_47 dX5_blow_49 dX5_blow_52 (Nat.le_of_ble_eq_true rfl) (Nat.le_of_ble_eq_true rfl) ⟨Nat.le_of_ble_eq_true rfl, Nat.le_of_ble_eq_true rfl⟩ ⟨Nat.le_of_ble_eq_true rfl, Nat.le_of_ble_eq_true rfl⟩ rfl
    ·
      exact z_throw Z hW Mz9 hA hE hl9.1 hfl zThr_A hX9 (is := 174) (text := "a blow is DRAW or UPSET") (by decide +kernel) dX5_blow_20 dX5_blow_23 dX5_blow_24 dX5_blow_26 dX5_blow_29 (Nat.le_of_ble_eq_true rfl) (Nat.le_of_ble_eq_true rfl) ⟨Nat.le_of_ble_eq_true rfl, Nat.le_of_ble_eq_true rfl⟩ ⟨Nat.le_of_ble_eq_true rfl, Nat.le_of_ble_eq_true rfl⟩ rfl
set_option maxHeartbeats 4000000 in
set_option maxRecDepth 100000 in
theorem ch_blow_c (l : Launch) (hfl : l.stackTraces = false) (D : va_G) (T : Nat → ClassId) (ea mi : Nat) (sa : Nat → Nat) (o : Nat) (ad : Nat → Nat) (lo : Int32) (kb : Int32) (rb n g : Nat) (fb : Nat → Option Nat) (h a q u : Nat) (β : Nat → Int32) (i : Nat) (hi : i < g) (hg : g ≤ n) (hn : n ≤ 40000) (hf : fb i = some h) (j : Nat) (hj : j < 8) (kd : Int32) (fo : Int32) (h1 : ¬ fo < 1) (h2 : fo ≤ 20) (hk9 : kd = 0 ∨ kd = 1) (hc9 : ¬ β 12 = 0) : ZB l yX5_blow wsX5_blow (zrmc 6 85 1 6) (zW ea mi sa) D T [(o, .inr (6, hsF ad lo)), (ad 7, .inr (0, [.int (kb), .ref rb, .int (nI (g))])), (rb, .inl (T 3, n, qa fb)), (h, .inr (1, biF a q u β))] [.ref o, .int (nI (i)), .int (nI (j)), .int (kd), .int (fo)] "java/lang/IllegalStateException" := by
  refine z_inB (cc := cX5_blow) (maxL := 7) (ret := (some .int)) (by decide +kernel) rfl (Nat.le_of_ble_eq_true rfl) ?_
  intro p e s m args below meth c sl9 A hA Z hW Mz9 hl9 hE
  have Z : zC p s m args c cX5_blow 7 RX5 wsX5_blow D T A := Z
  have hx := Z.1.1
  have hb := Z.1.2.1
  have hts := Z.1.2.2.2.2
  have hin5 : ∀ w ∈ wsX50, w ∈ wsX5_blow := by decide +kernel
  have hinL : ∀ w ∈ wsJx4a65c0, w ∈ wsX5_blow := by decide +kernel
  have hin0 : ∀ w ∈ wsX00, w ∈ wsX5_blow := by decide +kernel
  have hX9 : ∀ w ∈ Cond.classLink RX5 76 "java/lang/IllegalStateException" :: Cond.initialized "java/lang/IllegalStateException" :: (vx_atS RX5 80 "java/lang/IllegalStateException" zNm).filter goodWord, w ∈ wsX5_blow := by decide +kernel
  have L125 := hts (.fieldLink RX5 125 "AnvilHouse$Billet" "cracked" "Z") (by decide +kernel)
  have hl9 : lv_has sl9 7 [(0, .ref o), (1, .int (nI (i))), (2, .int (nI (j))), (3, .int (kd)), (4, .int (fo))] := hl9
  refine lv_aload_n hx hb dX5_blow_0 rfl (lv_at hl9 0 rfl) ?_
  refine lv_iload_n hx hb dX5_blow_1 rfl (lv_at hl9 1 rfl) ?_
  refine z_callVr (As := [.int (nI (i))]) (rest := []) (wc := [(o, .inr (6, hsF ad lo)), (ad 7, .inr (0, [.int (kb), .ref rb, .int (nI (g))])), (rb, .inl (T 3, n, qa fb)), (h, .inr (1, biF a q u β))]) Z Mz9 (ch_billetAt l D T o ad lo kb rb n g fb h (biF a q u β) i hi hg hn hf) (cwV 1 hts gX5_blow_X5_billetAt rfl rfl rfl (by decide +kernel) ⟨Nat.le_of_ble_eq_true rfl, Nat.le_of_ble_eq_true rfl⟩) [0, 1, 2, 3] rfl (by decide) (fun _ j hj => rfl) (fun _ => Nat.le_refl _) (va_recv Z.2.1 Mz9.1 (ci := 6) (q0 := 0) rfl rfl) rfl hl9.1 (Nat.le_of_ble_eq_true rfl) dX5_blow_2 ⟨Nat.le_of_ble_eq_true rfl, Nat.le_of_ble_eq_true rfl⟩ rfl (fun _ Hp9 lc9 Mz9 => ?_)
  have Mz9 : zM D A s.heap [(o, .inr (6, hsF ad lo)), (ad 7, .inr (0, [.int (kb), .ref rb, .int (nI (g))])), (rb, .inl (T 3, n, qa fb)), (h, .inr (1, biF a q u β))] _ _ := Mz9
  refine lv_astore (lv' := [(5, .ref h), (0, .ref o), (1, .int (nI (i))), (2, .int (nI (j))), (3, .int (kd)), (4, .int (fo))]) hx hb dX5_blow_5 hl9 (by decide) rfl (fun sl9 hl9 => ?_)
  refine lv_iload_n hx hb dX5_blow_7 rfl (lv_at hl9 3 rfl) ?_
  refine z_callSv (As := [.int (nI (j))]) (rest := []) (wc := []) (wc' := []) Z Mz9 (ch_refuseNoSection l D T (j) hj) (va_cwS 1 hts gX5_blow_X5_refuseNoSection rfl rfl rfl (by decide +kernel) ⟨Nat.le_of_ble_eq_true rfl, Nat.le_of_ble_eq_true rfl⟩) [] rfl (by decide) (fun j hj => rfl) (Nat.le_refl _) rfl hl9.1 (Nat.le_of_ble_eq_true rfl) dX5_blow_8 ⟨Nat.le_of_ble_eq_true rfl, Nat.le_of_ble_eq_true rfl⟩ rfl (fun Hp9 lc9 Mz9 => ?_)
  have Mz9 : zM D A s.heap [(o, .inr (6, hsF ad lo)), (ad 7, .inr (0, [.int (kb), .ref rb, .int (nI (g))])), (rb, .inl (T 3, n, qa fb)), (h, .inr (1, biF a q u β))] _ _ := Mz9
  refine lv_iload_n hx hb dX5_blow_11 rfl (lv_at hl9 4 rfl) ?_
  refine lv_if_eq (tgt := 30) hx hb dX5_blow_12 (by decide) (fun c_1 => ?_) (fun c_1 => ?_)
  ·
    refine lv_iload hx hb dX5_blow_30 (lv_at hl9 5 rfl) ?_
    refine lv_iconst (v := 1) hx hb dX5_blow_32 (by decide) ?_
    refine lv_icmp_lt (tgt := 43) hx hb dX5_blow_33 (by decide) (fun h => absurd h (h1)) (fun _ => ?_)
    refine lv_iload hx hb dX5_blow_36 (lv_at hl9 5 rfl) ?_
    refine lv_bipush (v := 20) hx hb dX5_blow_38 (by decide) ?_
    refine lv_icmp_le (tgt := 53) hx hb dX5_blow_40 (by decide) (fun _ => ?_) (fun h => absurd h (fun z => z h2))
    refine lv_aload hx hb dX5_blow_53 (lv_at hl9 0 rfl) ?_
    refine z_getf Z Mz9 hin0 3 rfl rfl 12 (by decide) L125 rfl (v := .int (β 12)) rfl dX5_blow_55 ?_
    refine lv_if_eq (tgt := 71) hx hb dX5_blow_58 (by decide) (fun h => absurd h (hc9)) (fun _ => ?_)
    exact z_throw Z hW Mz9 hA hE hl9.1 hfl zThr_S hX9 (is := 178) (text := "the billet has a crack") (by decide +kernel) dX5_blow_61 dX5_blow_64 dX5_blow_65 dX5_blow_67 dX5_blow_70 (Nat.le_of_ble_eq_true rfl) (Nat.le_of_ble_eq_true rfl) ⟨Nat.le_of_ble_eq_true rfl, Nat.le_of_ble_eq_true rfl⟩ ⟨Nat.le_of_ble_eq_true rfl, Nat.le_of_ble_eq_true rfl⟩ rfl
  ·
    refine lv_iload_n hx hb dX5_blow_15 rfl (lv_at hl9 4 rfl) ?_
    refine lv_iconst (v := 1) hx hb dX5_blow_16 (by decide) ?_
    refine lv_icmp_eq (tgt := 30) hx hb dX5_blow_17 (by decide) (fun c_2 => ?_) (fun c_2 => ?_)
    ·
      refine lv_iload hx hb dX5_blow_30 (lv_at hl9 5 rfl) ?_
      refine lv_iconst (v := 1) hx hb dX5_blow_32 (by decide) ?_
      refine lv_icmp_lt (tgt := 43) hx hb dX5_blow_33 (by decide) (fun h => absurd h (h1)) (fun _ => ?_)
      refine lv_iload hx hb dX5_blow_36 (lv_at hl9 5 rfl) ?_
      refine lv_bipush (v := 20) hx hb dX5_blow_38 (by decide) ?_
      refine lv_icmp_le (tgt := 53) hx hb dX5_blow_40 (by decide) (fun _ => ?_) (fun h => absurd h (fun z => z h2))
      refine lv_aload hx hb dX5_blow_53 (lv_at hl9 0 rfl) ?_
      refine z_getf Z Mz9 hin0 3 rfl rfl 12 (by decide) L125 rfl (v := .int (β 12)) rfl dX5_blow_55 ?_
      refine lv_if_eq (tgt := 71) hx hb dX5_blow_58 (by decide) (fun h => absurd h (hc9)) (fun _ => ?_)
      exact z_throw Z hW Mz9 hA hE hl9.1 hfl zThr_S hX9 (is := 178) (text := "the billet has a crack") (by decide +kernel) dX5_blow_61 dX5_blow_64 dX5_blow_65 dX5_blow_67 dX5_blow_70 (Nat.le_of_ble_eq_true rfl) (Nat.le_of_ble_eq_true rfl) ⟨Nat.le_of_ble_eq_true rfl, Nat.le_of_ble_eq_true rfl⟩ ⟨Nat.le_of_ble_eq_true rfl, Nat.le_of_ble_eq_true rfl⟩ rfl
    ·
      exact False.elim (by rcases hk9 with h | h <;> first | exact absurd h c_1 | exact absurd c_1 h | exact absurd h (Int32.not_lt.mpr c_1) | exact absurd (Int32.not_le.mp c_1) (Int32.not_lt.mpr h) | exact absurd c_1 (Int32.not_lt.mpr h) | exact absurd h c_2 | exact absurd c_2 h | exact absurd h (Int32.not_lt.mpr c_2) | exact absurd (Int32.not_le.mp c_2) (Int32.not_lt.mpr h) | exact absurd c_2 (Int32.not_lt.mpr h))
set_option maxHeartbeats 4000000 in
set_option maxRecDepth 100000 in
theorem ch_test (l : Launch) (D : va_G) (T : Nat → ClassId) (o : Nat) (ad : Nat → Nat) (lo : Int32) (kb : Int32) (rb n g : Nat) (fb : Nat → Option Nat) (h a q u : Nat) (β α κ τ : Nat → Int32) (i : Nat) (hi : i < g) (hg : g ≤ n) (hn : n ≤ 40000) (hf : fb i = some h) (tm : Nat → Int32) (ld : Nat) (h20 : ld < 20) (h14 : β 14 = nI ld) (hld : ¬ isl (nI ld) (nI 20) = 0) : ZI l yX5_test wsX5_test (zrm 4 85) D T [(o, .inr (6, hsF ad lo)), (ad 7, .inr (0, [.int (kb), .ref rb, .int (nI (g))])), (rb, .inl (T 3, n, qa fb)), (h, .inr (1, biF a q u β)), (a, .inl (T 0, 8, .inl α)), (q, .inl (T 0, 8, .inl κ)), (u, .inr (5, [.int (τ 0), .int (τ 1), .int (τ 2)])), (ad 9, .inl (T 0, 20, .inl tm))] [(o, .inr (6, hsF ad lo)), (ad 7, .inr (0, [.int (kb), .ref rb, .int (nI (g))])), (rb, .inl (T 3, n, qa fb)), (h, .inr (1, biF a q u (upd β 17 0))), (a, .inl (T 0, 8, .inl α)), (q, .inl (T 0, 8, .inl κ)), (u, .inr (5, [.int (τ 0), .int (τ 1), .int (τ 2)])), (ad 9, .inl (T 0, 20, .inl (upd tm ld (tm ld ||| ((1 : Int32) <<< (β 0 &&& 31))))))] [.ref o, .int (nI (i))] (LH (fun j => if β 14 = -1 then 0 else hrc (κ j) (β 16))) 0 0 := by
  refine z_inI (cc := cX5_test) (maxL := 3) (rt := .int) (by decide +kernel) rfl (Nat.le_of_ble_eq_true rfl) ?_
  intro p e s m args below meth c sl9 A Q Z hnm Mz9 hl9 hret
  have Z : zC p s m args c cX5_test 3 RX5 wsX5_test D T A := Z
  have hx := Z.1.1
  have hb := Z.1.2.1
  have hts := Z.1.2.2.2.2
  have hin5 : ∀ w ∈ wsX50, w ∈ wsX5_test := by decide +kernel
  have hinL : ∀ w ∈ wsJx4a65c0, w ∈ wsX5_test := by decide +kernel
  have hin0 : ∀ w ∈ wsX00, w ∈ wsX5_test := by decide +kernel
  have L132 := hts (.fieldLink RX5 132 "AnvilHouse$Billet" "load" "I") (by decide +kernel)
  have L28 := hts (.fieldLink RX5 28 "AnvilHouse" "testedMelts" "[I") (by decide +kernel)
  have L263 := hts (.fieldLink RX5 263 "AnvilHouse$Billet" "melt" "I") (by decide +kernel)
  have L266 := hts (.fieldLink RX5 266 "AnvilHouse$Billet" "part" "Z") (by decide +kernel)
  have hl9 : lv_has sl9 3 [(0, .ref o), (1, .int (nI (i)))] := hl9
  refine lv_aload_n hx hb dX5_test_0 rfl (lv_at hl9 0 rfl) ?_
  refine lv_iload_n hx hb dX5_test_1 rfl (lv_at hl9 1 rfl) ?_
  refine z_callVr (As := [.int (nI (i))]) (rest := []) (wc := [(o, .inr (6, hsF ad lo)), (ad 7, .inr (0, [.int (kb), .ref rb, .int (nI (g))])), (rb, .inl (T 3, n, qa fb)), (h, .inr (1, biF a q u β))]) Z Mz9 (ch_billetAt l D T o ad lo kb rb n g fb h (biF a q u β) i hi hg hn hf) (cwV 1 hts gX5_test_X5_billetAt rfl rfl rfl (by decide +kernel) ⟨Nat.le_of_ble_eq_true rfl, Nat.le_of_ble_eq_true rfl⟩) [0, 1, 2, 3] rfl (by decide) (fun _ j hj => rfl) (fun _ => Nat.le_refl _) (va_recv Z.2.1 Mz9.1 (ci := 6) (q0 := 0) rfl rfl) rfl hl9.1 (Nat.le_of_ble_eq_true rfl) dX5_test_2 ⟨Nat.le_of_ble_eq_true rfl, Nat.le_of_ble_eq_true rfl⟩ rfl (fun _ Hp9 lc9 Mz9 => ?_)
  have Mz9 : zM D A s.heap [(o, .inr (6, hsF ad lo)), (ad 7, .inr (0, [.int (kb), .ref rb, .int (nI (g))])), (rb, .inl (T 3, n, qa fb)), (h, .inr (1, biF a q u β)), (a, .inl (T 0, 8, .inl α)), (q, .inl (T 0, 8, .inl κ)), (u, .inr (5, [.int (τ 0), .int (τ 1), .int (τ 2)])), (ad 9, .inl (T 0, 20, .inl tm))] _ _ := Mz9
  refine lv_astore_n (lv' := [(2, .ref h), (0, .ref o), (1, .int (nI (i)))]) hx hb dX5_test_5 rfl hl9 (by decide) rfl (fun sl9 hl9 => ?_)
  refine lv_aload_n hx hb dX5_test_6 rfl (lv_at hl9 1 rfl) ?_
  refine lv_aload_n hx hb dX5_test_7 rfl (lv_at hl9 0 rfl) ?_
  refine z_getf Z Mz9 hin0 3 rfl rfl 14 (by decide) L132 rfl (v := .int (β 14)) rfl dX5_test_8 ?_
  refine zn_top (y := nI (ld)) (h14) ?_
  refine z_callVi (As := [.int (nI (ld))]) (rest := []) (rv := isl (nI (ld)) (nI 20)) (wc := [(o, .inr (6, hsF ad lo)), (ad 9, .inl (T 0, 20, .inl tm))]) (wc' := [(o, .inr (6, hsF ad lo)), (ad 9, .inl (T 0, 20, .inl tm))]) Z Mz9 (ch_isLoad l D T o ad lo tm (nI (ld))) (cwV 1 hts gX5_test_X5_isLoad rfl rfl rfl (by decide +kernel) ⟨Nat.le_of_ble_eq_true rfl, Nat.le_of_ble_eq_true rfl⟩) [0, 7] rfl (by decide) (fun j hj => rfl) (Nat.le_refl _) (va_recv Z.2.1 Mz9.1 (ci := 6) (q0 := 0) rfl rfl) rfl hl9.1 (Nat.le_of_ble_eq_true rfl) dX5_test_11 ⟨Nat.le_of_ble_eq_true rfl, Nat.le_of_ble_eq_true rfl⟩ rfl (fun Hp9 lc9 Mz9 => ?_)
  have Mz9 : zM D A s.heap [(o, .inr (6, hsF ad lo)), (ad 7, .inr (0, [.int (kb), .ref rb, .int (nI (g))])), (rb, .inl (T 3, n, qa fb)), (h, .inr (1, biF a q u β)), (a, .inl (T 0, 8, .inl α)), (q, .inl (T 0, 8, .inl κ)), (u, .inr (5, [.int (τ 0), .int (τ 1), .int (τ 2)])), (ad 9, .inl (T 0, 20, .inl tm))] _ _ := Mz9
  refine lv_if_ne (tgt := 27) hx hb dX5_test_14 (by decide) (fun _ => ?_) (fun h => absurd h (hld))
  refine lv_aload_n hx hb dX5_test_27 rfl (lv_at hl9 1 rfl) ?_
  refine z_getf Z Mz9 hin5 0 rfl rfl 4 (by decide) L28 rfl (v := .ref (ad 9)) rfl dX5_test_28 ?_
  refine lv_aload_n hx hb dX5_test_31 rfl (lv_at hl9 0 rfl) ?_
  refine z_getf Z Mz9 hin0 3 rfl rfl 14 (by decide) L132 rfl (v := .int (β 14)) rfl dX5_test_32 ?_
  refine zn_top (y := nI (ld)) (h14) ?_
  refine lv_dup2_11 hx hb dX5_test_35 rfl rfl ?_
  refine z_iald Z Mz9 7 (h0 := ad 9) (n := 20) (f := tm) rfl (j := ld) (by omega) (by decide) dX5_test_36 ?_
  refine lv_iconst (v := 1) hx hb dX5_test_37 (by decide) ?_
  refine lv_aload_n hx hb dX5_test_38 rfl (lv_at hl9 0 rfl) ?_
  refine z_getf Z Mz9 hin0 3 rfl rfl 0 (by decide) L263 rfl (v := .int (β 0)) rfl dX5_test_39 ?_
  refine lv_ishl hx hb dX5_test_42 ?_
  refine lv_ior hx hb dX5_test_43 ?_
  refine z_iast Z Mz9 7 (h0 := ad 9) (n := 20) (f := tm) rfl (j := ld) (x := (tm ld) ||| ((1 : Int32) <<< ((β 0) &&& 31))) (by omega) (by decide) (ws' := [(o, .inr (6, hsF ad lo)), (ad 7, .inr (0, [.int (kb), .ref rb, .int (nI (g))])), (rb, .inl (T 3, n, qa fb)), (h, .inr (1, biF a q u β)), (a, .inl (T 0, 8, .inl α)), (q, .inl (T 0, 8, .inl κ)), (u, .inr (5, [.int (τ 0), .int (τ 1), .int (τ 2)])), (ad 9, .inl (T 0, 20, .inl (upd tm ld ((tm ld) ||| ((1 : Int32) <<< ((β 0) &&& 31))))))]) rfl dX5_test_44 (fun Hp9 lc9 Mz9 => ?_)
  refine lv_aload_n hx hb dX5_test_45 rfl (lv_at hl9 0 rfl) ?_
  refine lv_iconst (v := 0) hx hb dX5_test_46 (by decide) ?_
  refine z_putf Z Mz9 hin0 tyX0 tyX0_ok nmX0 3 rfl rfl 17 (by decide) L266 rfl rfl (ty := .boolean) rfl rfl rfl (Nat.le_of_ble_eq_true rfl) (ws' := [(o, .inr (6, hsF ad lo)), (ad 7, .inr (0, [.int (kb), .ref rb, .int (nI (g))])), (rb, .inl (T 3, n, qa fb)), (h, .inr (1, biF a q u (upd β 17 0))), (a, .inl (T 0, 8, .inl α)), (q, .inl (T 0, 8, .inl κ)), (u, .inr (5, [.int (τ 0), .int (τ 1), .int (τ 2)])), (ad 9, .inl (T 0, 20, .inl (upd tm ld ((tm ld) ||| ((1 : Int32) <<< ((β 0) &&& 31))))))]) rfl dX5_test_47 (fun Hp9 lc9 Mz9 => ?_)
  refine lv_aload_n hx hb dX5_test_50 rfl (lv_at hl9 0 rfl) ?_
  refine z_callVi (As := []) (rest := []) (rv := LH (fun j => if β 14 = -1 then 0 else hrc (κ j) (β 16))) (wc := biW h a q u T (upd β 17 0) α κ τ) (wc' := biW h a q u T (upd β 17 0) α κ τ) Z Mz9 (cb_leastHardness l D T h a q u (upd β 17 0) α κ τ) (cwV 0 hts gX5_test_X0_leastHardness rfl rfl rfl (by decide +kernel) ⟨Nat.le_of_ble_eq_true rfl, Nat.le_of_ble_eq_true rfl⟩) [3, 4, 5, 6] rfl (by decide) (fun j hj => rfl) (Nat.le_refl _) (va_recv Z.2.1 Mz9.1 (ci := 1) (q0 := 3) rfl rfl) rfl hl9.1 (Nat.le_of_ble_eq_true rfl) dX5_test_51 ⟨Nat.le_of_ble_eq_true rfl, Nat.le_of_ble_eq_true rfl⟩ rfl (fun Hp9 lc9 Mz9 => ?_)
  have Mz9 : zM D A s.heap [(o, .inr (6, hsF ad lo)), (ad 7, .inr (0, [.int (kb), .ref rb, .int (nI (g))])), (rb, .inl (T 3, n, qa fb)), (h, .inr (1, biF a q u (upd β 17 0))), (a, .inl (T 0, 8, .inl α)), (q, .inl (T 0, 8, .inl κ)), (u, .inr (5, [.int (τ 0), .int (τ 1), .int (τ 2)])), (ad 9, .inl (T 0, 20, .inl (upd tm ld ((tm ld) ||| ((1 : Int32) <<< ((β 0) &&& 31))))))] _ _ := Mz9
  exact hret _ _ _ _ _ sl9 _ _ Mz9 (rfl) (rfl) (rfl) (Nat.le_of_ble_eq_true rfl) (Nat.le_of_ble_eq_true rfl) dX5_test_54
set_option maxHeartbeats 4000000 in
set_option maxRecDepth 100000 in
theorem ch_test_b (l : Launch) (hfl : l.stackTraces = false) (D : va_G) (T : Nat → ClassId) (ea mi : Nat) (sa : Nat → Nat) (o : Nat) (ad : Nat → Nat) (lo : Int32) (kb : Int32) (rb g : Nat) (v : Int32) (hv9 : v < 0 ∨ nI g ≤ v) : ZB l yX5_test wsX5_test (zrmc 7 103 1 6) (zW ea mi sa) D T [(o, .inr (6, hsF ad lo)), (ad 7, .inr (0, [.int (kb), .ref rb, .int (nI (g))]))] [.ref o, .int (v)] "java/lang/IndexOutOfBoundsException" := by
  refine z_inB (cc := cX5_test) (maxL := 3) (ret := (some .int)) (by decide +kernel) rfl (Nat.le_of_ble_eq_true rfl) ?_
  intro p e s m args below meth c sl9 A hA Z hW Mz9 hl9 hE
  have Z : zC p s m args c cX5_test 3 RX5 wsX5_test D T A := Z
  have hx := Z.1.1
  have hb := Z.1.2.1
  have hts := Z.1.2.2.2.2
  have hin5 : ∀ w ∈ wsX50, w ∈ wsX5_test := by decide +kernel
  have hinL : ∀ w ∈ wsJx4a65c0, w ∈ wsX5_test := by decide +kernel
  have hin0 : ∀ w ∈ wsX00, w ∈ wsX5_test := by decide +kernel
  have L132 := hts (.fieldLink RX5 132 "AnvilHouse$Billet" "load" "I") (by decide +kernel)
  have L28 := hts (.fieldLink RX5 28 "AnvilHouse" "testedMelts" "[I") (by decide +kernel)
  have L263 := hts (.fieldLink RX5 263 "AnvilHouse$Billet" "melt" "I") (by decide +kernel)
  have L266 := hts (.fieldLink RX5 266 "AnvilHouse$Billet" "part" "Z") (by decide +kernel)
  have hl9 : lv_has sl9 3 [(0, .ref o), (1, .int (v))] := hl9
  refine lv_aload_n hx hb dX5_test_0 rfl (lv_at hl9 0 rfl) ?_
  refine lv_iload_n hx hb dX5_test_1 rfl (lv_at hl9 1 rfl) ?_
  exact z_callB (As := [.int (v)]) (rest := []) (wc := [(o, .inr (6, hsF ad lo)), (ad 7, .inr (0, [.int (kb), .ref rb, .int (nI (g))]))]) (zW_k ea mi sa) hW Z Mz9 hA hE (ch_billetAt_bad l hfl D T ea mi sa o ad lo kb rb g v hv9) (cwV 1 hts gX5_test_X5_billetAt rfl rfl rfl (by decide +kernel) ⟨Nat.le_of_ble_eq_true rfl, Nat.le_of_ble_eq_true rfl⟩) [0, 1] rfl (by decide) (va_recv Z.2.1 Mz9.1 (ci := 6) (q0 := 0) rfl rfl) rfl hl9.1 (Nat.le_of_ble_eq_true rfl) dX5_test_2 ⟨Nat.le_of_ble_eq_true rfl, Nat.le_of_ble_eq_true rfl⟩ ⟨Nat.le_of_ble_eq_true rfl, Nat.le_of_ble_eq_true rfl⟩ rfl rfl
set_option maxHeartbeats 4000000 in
set_option maxRecDepth 100000 in
theorem ch_test_l (l : Launch) (hfl : l.stackTraces = false) (D : va_G) (T : Nat → ClassId) (ea mi : Nat) (sa : Nat → Nat) (o : Nat) (ad : Nat → Nat) (lo : Int32) (kb : Int32) (rb n g : Nat) (fb : Nat → Option Nat) (h a q u : Nat) (β : Nat → Int32) (i : Nat) (hi : i < g) (hg : g ≤ n) (hn : n ≤ 40000) (hf : fb i = some h) (tm : Nat → Int32) (hld : isl (β 14) (nI 20) = 0) : ZB l yX5_test wsX5_test (zrmc 6 85 1 6) (zW ea mi sa) D T [(o, .inr (6, hsF ad lo)), (ad 7, .inr (0, [.int (kb), .ref rb, .int (nI (g))])), (rb, .inl (T 3, n, qa fb)), (h, .inr (1, biF a q u β)), (ad 9, .inl (T 0, 20, .inl tm))] [.ref o, .int (nI (i))] "java/lang/IllegalStateException" := by
  refine z_inB (cc := cX5_test) (maxL := 3) (ret := (some .int)) (by decide +kernel) rfl (Nat.le_of_ble_eq_true rfl) ?_
  intro p e s m args below meth c sl9 A hA Z hW Mz9 hl9 hE
  have Z : zC p s m args c cX5_test 3 RX5 wsX5_test D T A := Z
  have hx := Z.1.1
  have hb := Z.1.2.1
  have hts := Z.1.2.2.2.2
  have hin5 : ∀ w ∈ wsX50, w ∈ wsX5_test := by decide +kernel
  have hinL : ∀ w ∈ wsJx4a65c0, w ∈ wsX5_test := by decide +kernel
  have hin0 : ∀ w ∈ wsX00, w ∈ wsX5_test := by decide +kernel
  have hX9 : ∀ w ∈ Cond.classLink RX5 76 "java/lang/IllegalStateException" :: Cond.initialized "java/lang/IllegalStateException" :: (vx_atS RX5 80 "java/lang/IllegalStateException" zNm).filter goodWord, w ∈ wsX5_test := by decide +kernel
  have L132 := hts (.fieldLink RX5 132 "AnvilHouse$Billet" "load" "I") (by decide +kernel)
  have L28 := hts (.fieldLink RX5 28 "AnvilHouse" "testedMelts" "[I") (by decide +kernel)
  have L263 := hts (.fieldLink RX5 263 "AnvilHouse$Billet" "melt" "I") (by decide +kernel)
  have L266 := hts (.fieldLink RX5 266 "AnvilHouse$Billet" "part" "Z") (by decide +kernel)
  have hl9 : lv_has sl9 3 [(0, .ref o), (1, .int (nI (i)))] := hl9
  refine lv_aload_n hx hb dX5_test_0 rfl (lv_at hl9 0 rfl) ?_
  refine lv_iload_n hx hb dX5_test_1 rfl (lv_at hl9 1 rfl) ?_
  refine z_callVr (As := [.int (nI (i))]) (rest := []) (wc := [(o, .inr (6, hsF ad lo)), (ad 7, .inr (0, [.int (kb), .ref rb, .int (nI (g))])), (rb, .inl (T 3, n, qa fb)), (h, .inr (1, biF a q u β))]) Z Mz9 (ch_billetAt l D T o ad lo kb rb n g fb h (biF a q u β) i hi hg hn hf) (cwV 1 hts gX5_test_X5_billetAt rfl rfl rfl (by decide +kernel) ⟨Nat.le_of_ble_eq_true rfl, Nat.le_of_ble_eq_true rfl⟩) [0, 1, 2, 3] rfl (by decide) (fun _ j hj => rfl) (fun _ => Nat.le_refl _) (va_recv Z.2.1 Mz9.1 (ci := 6) (q0 := 0) rfl rfl) rfl hl9.1 (Nat.le_of_ble_eq_true rfl) dX5_test_2 ⟨Nat.le_of_ble_eq_true rfl, Nat.le_of_ble_eq_true rfl⟩ rfl (fun _ Hp9 lc9 Mz9 => ?_)
  have Mz9 : zM D A s.heap [(o, .inr (6, hsF ad lo)), (ad 7, .inr (0, [.int (kb), .ref rb, .int (nI (g))])), (rb, .inl (T 3, n, qa fb)), (h, .inr (1, biF a q u β)), (ad 9, .inl (T 0, 20, .inl tm))] _ _ := Mz9
  refine lv_astore_n (lv' := [(2, .ref h), (0, .ref o), (1, .int (nI (i)))]) hx hb dX5_test_5 rfl hl9 (by decide) rfl (fun sl9 hl9 => ?_)
  refine lv_aload_n hx hb dX5_test_6 rfl (lv_at hl9 1 rfl) ?_
  refine lv_aload_n hx hb dX5_test_7 rfl (lv_at hl9 0 rfl) ?_
  refine z_getf Z Mz9 hin0 3 rfl rfl 14 (by decide) L132 rfl (v := .int (β 14)) rfl dX5_test_8 ?_
  refine z_callVi (As := [.int (β 14)]) (rest := []) (rv := isl (β 14) (nI 20)) (wc := [(o, .inr (6, hsF ad lo)), (ad 9, .inl (T 0, 20, .inl tm))]) (wc' := [(o, .inr (6, hsF ad lo)), (ad 9, .inl (T 0, 20, .inl tm))]) Z Mz9 (ch_isLoad l D T o ad lo tm (β 14)) (cwV 1 hts gX5_test_X5_isLoad rfl rfl rfl (by decide +kernel) ⟨Nat.le_of_ble_eq_true rfl, Nat.le_of_ble_eq_true rfl⟩) [0, 4] rfl (by decide) (fun j hj => rfl) (Nat.le_refl _) (va_recv Z.2.1 Mz9.1 (ci := 6) (q0 := 0) rfl rfl) rfl hl9.1 (Nat.le_of_ble_eq_true rfl) dX5_test_11 ⟨Nat.le_of_ble_eq_true rfl, Nat.le_of_ble_eq_true rfl⟩ rfl (fun Hp9 lc9 Mz9 => ?_)
  have Mz9 : zM D A s.heap [(o, .inr (6, hsF ad lo)), (ad 7, .inr (0, [.int (kb), .ref rb, .int (nI (g))])), (rb, .inl (T 3, n, qa fb)), (h, .inr (1, biF a q u β)), (ad 9, .inl (T 0, 20, .inl tm))] _ _ := Mz9
  refine lv_if_ne (tgt := 27) hx hb dX5_test_14 (by decide) (fun h => absurd h (fun z => z hld)) (fun _ => ?_)
  exact z_throw Z hW Mz9 hA hE hl9.1 hfl zThr_S hX9 (is := 249) (text := "not quenched since the latest heat") (by decide +kernel) dX5_test_17 dX5_test_20 dX5_test_21 dX5_test_23 dX5_test_26 (Nat.le_of_ble_eq_true rfl) (Nat.le_of_ble_eq_true rfl) ⟨Nat.le_of_ble_eq_true rfl, Nat.le_of_ble_eq_true rfl⟩ ⟨Nat.le_of_ble_eq_true rfl, Nat.le_of_ble_eq_true rfl⟩ rfl
set_option maxHeartbeats 4000000 in
set_option maxRecDepth 100000 in
theorem ch_paper (l : Launch) (D : va_G) (T : Nat → ClassId) (o : Nat) (ad : Nat → Nat) (lo : Int32) (kb : Int32) (rb n g : Nat) (fb : Nat → Option Nat) (h a q u : Nat) (β α κ τ : Nat → Int32) (i : Nat) (hi : i < g) (hg : g ≤ n) (hn : n ≤ 40000) (hf : fb i = some h) (tm : Nat → Int32) (ld : Nat) (h20 : ld < 20) (h14 : β 14 = nI ld) (hld : ¬ isl (nI ld) (nI 20) = 0) (ls9 : Int32) (h1 : ¬ ls9 < 0) (h2 : ls9 ≤ 70) (h17 : ¬ β 17 = 0) (h12 : β 12 = 0) (h11 : ¬ 0 < β 11) : ZI l yX5_paper wsX5_paper (zrm 4 85) D T [(o, .inr (6, hsF ad lo)), (ad 7, .inr (0, [.int (kb), .ref rb, .int (nI (g))])), (rb, .inl (T 3, n, qa fb)), (h, .inr (1, biF a q u β)), (a, .inl (T 0, 8, .inl α)), (q, .inl (T 0, 8, .inl κ)), (u, .inr (5, [.int (τ 0), .int (τ 1), .int (τ 2)])), (ad 9, .inl (T 0, 20, .inl tm))] [(o, .inr (6, hsF ad lo)), (ad 7, .inr (0, [.int (kb), .ref rb, .int (nI (g))])), (rb, .inl (T 3, n, qa fb)), (h, .inr (1, biF a q u β)), (a, .inl (T 0, 8, .inl α)), (q, .inl (T 0, 8, .inl κ)), (u, .inr (5, [.int (τ 0), .int (τ 1), .int (τ 2)])), (ad 9, .inl (T 0, 20, .inl tm))] [.ref o, .int (nI (i)), .int (ls9)] (if tm ld &&& ((1 : Int32) <<< (β 0 &&& 31)) = 0 then -1 else if LH (fun j => if β 14 = -1 then 0 else hrc (κ j) (β 16)) < ls9 then -1 else β 0) 0 0 := by
  refine z_inI (cc := cX5_paper) (maxL := 5) (rt := .int) (by decide +kernel) rfl (Nat.le_of_ble_eq_true rfl) ?_
  intro p e s m args below meth c sl9 A Q Z hnm Mz9 hl9 hret
  have Z : zC p s m args c cX5_paper 5 RX5 wsX5_paper D T A := Z
  have hx := Z.1.1
  have hb := Z.1.2.1
  have hts := Z.1.2.2.2.2
  have hin5 : ∀ w ∈ wsX50, w ∈ wsX5_paper := by decide +kernel
  have hinL : ∀ w ∈ wsJx4a65c0, w ∈ wsX5_paper := by decide +kernel
  have hin0 : ∀ w ∈ wsX00, w ∈ wsX5_paper := by decide +kernel
  have L266 := hts (.fieldLink RX5 266 "AnvilHouse$Billet" "part" "Z") (by decide +kernel)
  have L125 := hts (.fieldLink RX5 125 "AnvilHouse$Billet" "cracked" "Z") (by decide +kernel)
  have L122 := hts (.fieldLink RX5 122 "AnvilHouse$Billet" "laps" "I") (by decide +kernel)
  have L132 := hts (.fieldLink RX5 132 "AnvilHouse$Billet" "load" "I") (by decide +kernel)
  have L28 := hts (.fieldLink RX5 28 "AnvilHouse" "testedMelts" "[I") (by decide +kernel)
  have L263 := hts (.fieldLink RX5 263 "AnvilHouse$Billet" "melt" "I") (by decide +kernel)
  have hl9 : lv_has sl9 5 [(0, .ref o), (1, .int (nI (i))), (2, .int (ls9))] := hl9
  refine lv_aload_n hx hb dX5_paper_0 rfl (lv_at hl9 0 rfl) ?_
  refine lv_iload_n hx hb dX5_paper_1 rfl (lv_at hl9 1 rfl) ?_
  refine z_callVr (As := [.int (nI (i))]) (rest := []) (wc := [(o, .inr (6, hsF ad lo)), (ad 7, .inr (0, [.int (kb), .ref rb, .int (nI (g))])), (rb, .inl (T 3, n, qa fb)), (h, .inr (1, biF a q u β))]) Z Mz9 (ch_billetAt l D T o ad lo kb rb n g fb h (biF a q u β) i hi hg hn hf) (cwV 1 hts gX5_paper_X5_billetAt rfl rfl rfl (by decide +kernel) ⟨Nat.le_of_ble_eq_true rfl, Nat.le_of_ble_eq_true rfl⟩) [0, 1, 2, 3] rfl (by decide) (fun _ j hj => rfl) (fun _ => Nat.le_refl _) (va_recv Z.2.1 Mz9.1 (ci := 6) (q0 := 0) rfl rfl) rfl hl9.1 (Nat.le_of_ble_eq_true rfl) dX5_paper_2 ⟨Nat.le_of_ble_eq_true rfl, Nat.le_of_ble_eq_true rfl⟩ rfl (fun _ Hp9 lc9 Mz9 => ?_)
  have Mz9 : zM D A s.heap [(o, .inr (6, hsF ad lo)), (ad 7, .inr (0, [.int (kb), .ref rb, .int (nI (g))])), (rb, .inl (T 3, n, qa fb)), (h, .inr (1, biF a q u β)), (a, .inl (T 0, 8, .inl α)), (q, .inl (T 0, 8, .inl κ)), (u, .inr (5, [.int (τ 0), .int (τ 1), .int (τ 2)])), (ad 9, .inl (T 0, 20, .inl tm))] _ _ := Mz9
  refine lv_astore_n (lv' := [(3, .ref h), (0, .ref o), (1, .int (nI (i))), (2, .int (ls9))]) hx hb dX5_paper_5 rfl hl9 (by decide) rfl (fun sl9 hl9 => ?_)
  refine lv_iload_n hx hb dX5_paper_6 rfl (lv_at hl9 3 rfl) ?_
  refine lv_if_lt (tgt := 16) hx hb dX5_paper_7 (by decide) (fun h => absurd h (h1)) (fun _ => ?_)
  refine lv_iload_n hx hb dX5_paper_10 rfl (lv_at hl9 3 rfl) ?_
  refine lv_bipush (v := 70) hx hb dX5_paper_11 (by decide) ?_
  refine lv_icmp_le (tgt := 27) hx hb dX5_paper_13 (by decide) (fun _ => ?_) (fun h => absurd h (fun z => z h2))
  refine lv_aload_n hx hb dX5_paper_27 rfl (lv_at hl9 0 rfl) ?_
  refine z_getf Z Mz9 hin0 3 rfl rfl 17 (by decide) L266 rfl (v := .int (β 17)) rfl dX5_paper_28 ?_
  refine lv_if_eq (tgt := 59) hx hb dX5_paper_31 (by decide) (fun h => absurd h (h17)) (fun _ => ?_)
  refine lv_aload_n hx hb dX5_paper_34 rfl (lv_at hl9 0 rfl) ?_
  refine z_getf Z Mz9 hin0 3 rfl rfl 12 (by decide) L125 rfl (v := .int (β 12)) rfl dX5_paper_35 ?_
  refine lv_if_ne (tgt := 59) hx hb dX5_paper_38 (by decide) (fun h => absurd h (fun z => z h12)) (fun _ => ?_)
  refine lv_aload_n hx hb dX5_paper_41 rfl (lv_at hl9 0 rfl) ?_
  refine z_getf Z Mz9 hin0 3 rfl rfl 11 (by decide) L122 rfl (v := .int (β 11)) rfl dX5_paper_42 ?_
  refine lv_if_gt (tgt := 59) hx hb dX5_paper_45 (by decide) (fun h => absurd h (h11)) (fun _ => ?_)
  refine lv_aload_n hx hb dX5_paper_48 rfl (lv_at hl9 1 rfl) ?_
  refine lv_aload_n hx hb dX5_paper_49 rfl (lv_at hl9 0 rfl) ?_
  refine z_getf Z Mz9 hin0 3 rfl rfl 14 (by decide) L132 rfl (v := .int (β 14)) rfl dX5_paper_50 ?_
  refine zn_top (y := nI (ld)) (h14) ?_
  refine z_callVi (As := [.int (nI (ld))]) (rest := []) (rv := isl (nI (ld)) (nI 20)) (wc := [(o, .inr (6, hsF ad lo)), (ad 9, .inl (T 0, 20, .inl tm))]) (wc' := [(o, .inr (6, hsF ad lo)), (ad 9, .inl (T 0, 20, .inl tm))]) Z Mz9 (ch_isLoad l D T o ad lo tm (nI (ld))) (cwV 1 hts gX5_paper_X5_isLoad rfl rfl rfl (by decide +kernel) ⟨Nat.le_of_ble_eq_true rfl, Nat.le_of_ble_eq_true rfl⟩) [0, 7] rfl (by decide) (fun j hj => rfl) (Nat.le_refl _) (va_recv Z.2.1 Mz9.1 (ci := 6) (q0 := 0) rfl rfl) rfl hl9.1 (Nat.le_of_ble_eq_true rfl) dX5_paper_53 ⟨Nat.le_of_ble_eq_true rfl, Nat.le_of_ble_eq_true rfl⟩ rfl (fun Hp9 lc9 Mz9 => ?_)
  have Mz9 : zM D A s.heap [(o, .inr (6, hsF ad lo)), (ad 7, .inr (0, [.int (kb), .ref rb, .int (nI (g))])), (rb, .inl (T 3, n, qa fb)), (h, .inr (1, biF a q u β)), (a, .inl (T 0, 8, .inl α)), (q, .inl (T 0, 8, .inl κ)), (u, .inr (5, [.int (τ 0), .int (τ 1), .int (τ 2)])), (ad 9, .inl (T 0, 20, .inl tm))] _ _ := Mz9
  refine lv_if_ne (tgt := 61) hx hb dX5_paper_56 (by decide) (fun _ => ?_) (fun h => absurd h (hld))
  refine lv_aload_n hx hb dX5_paper_61 rfl (lv_at hl9 1 rfl) ?_
  refine z_getf Z Mz9 hin5 0 rfl rfl 4 (by decide) L28 rfl (v := .ref (ad 9)) rfl dX5_paper_62 ?_
  refine lv_aload_n hx hb dX5_paper_65 rfl (lv_at hl9 0 rfl) ?_
  refine z_getf Z Mz9 hin0 3 rfl rfl 14 (by decide) L132 rfl (v := .int (β 14)) rfl dX5_paper_66 ?_
  refine zn_top (y := nI (ld)) (h14) ?_
  refine z_iald Z Mz9 7 (h0 := ad 9) (n := 20) (f := tm) rfl (j := ld) (by omega) (by decide) dX5_paper_69 ?_
  refine lv_iconst (v := 1) hx hb dX5_paper_70 (by decide) ?_
  refine lv_aload_n hx hb dX5_paper_71 rfl (lv_at hl9 0 rfl) ?_
  refine z_getf Z Mz9 hin0 3 rfl rfl 0 (by decide) L263 rfl (v := .int (β 0)) rfl dX5_paper_72 ?_
  refine lv_ishl hx hb dX5_paper_75 ?_
  refine lv_iand hx hb dX5_paper_76 ?_
  refine lv_if_eq (tgt := 84) hx hb dX5_paper_77 (by decide) (fun c_1 => ?_) (fun c_1 => ?_)
  ·
    refine lv_iconst (v := 0) hx hb dX5_paper_84 (by decide) ?_
    refine lv_istore (lv' := [(4, .int 0), (3, .ref h), (0, .ref o), (1, .int (nI (i))), (2, .int (ls9))]) hx hb dX5_paper_85 hl9 (by decide) rfl (fun sl9 hl9 => ?_)
    refine lv_iload hx hb dX5_paper_87 (lv_at hl9 0 rfl) ?_
    refine lv_if_eq (tgt := 107) hx hb dX5_paper_89 (by decide) (fun _ => ?_) (fun h => absurd h (by decide))
    refine lv_iconst (v := (-1)) hx hb dX5_paper_107 (by decide) ?_
    exact hret _ _ _ _ _ sl9 _ _ Mz9 (rfl) (by simp only [if_pos c_1]) (rfl) (Nat.le_of_ble_eq_true rfl) (Nat.le_of_ble_eq_true rfl) dX5_paper_108
  ·
    refine lv_iconst (v := 1) hx hb dX5_paper_80 (by decide) ?_
    refine lv_goto (tgt := 85) hx hb dX5_paper_81 (by decide) ?_
    refine lv_istore (lv' := [(4, .int 1), (3, .ref h), (0, .ref o), (1, .int (nI (i))), (2, .int (ls9))]) hx hb dX5_paper_85 hl9 (by decide) rfl (fun sl9 hl9 => ?_)
    refine lv_iload hx hb dX5_paper_87 (lv_at hl9 0 rfl) ?_
    refine lv_if_eq (tgt := 107) hx hb dX5_paper_89 (by decide) (fun h => absurd h (by decide)) (fun _ => ?_)
    refine lv_aload_n hx hb dX5_paper_92 rfl (lv_at hl9 1 rfl) ?_
    refine z_callVi (As := []) (rest := []) (rv := LH (fun j => if β 14 = -1 then 0 else hrc (κ j) (β 16))) (wc := biW h a q u T β α κ τ) (wc' := biW h a q u T β α κ τ) Z Mz9 (cb_leastHardness l D T h a q u β α κ τ) (cwV 0 hts gX5_paper_X0_leastHardness rfl rfl rfl (by decide +kernel) ⟨Nat.le_of_ble_eq_true rfl, Nat.le_of_ble_eq_true rfl⟩) [3, 4, 5, 6] rfl (by decide) (fun j hj => rfl) (Nat.le_refl _) (va_recv Z.2.1 Mz9.1 (ci := 1) (q0 := 3) rfl rfl) rfl hl9.1 (Nat.le_of_ble_eq_true rfl) dX5_paper_93 ⟨Nat.le_of_ble_eq_true rfl, Nat.le_of_ble_eq_true rfl⟩ rfl (fun Hp9 lc9 Mz9 => ?_)
    have Mz9 : zM D A s.heap [(o, .inr (6, hsF ad lo)), (ad 7, .inr (0, [.int (kb), .ref rb, .int (nI (g))])), (rb, .inl (T 3, n, qa fb)), (h, .inr (1, biF a q u β)), (a, .inl (T 0, 8, .inl α)), (q, .inl (T 0, 8, .inl κ)), (u, .inr (5, [.int (τ 0), .int (τ 1), .int (τ 2)])), (ad 9, .inl (T 0, 20, .inl tm))] _ _ := Mz9
    refine lv_iload_n hx hb dX5_paper_96 rfl (lv_at hl9 4 rfl) ?_
    refine lv_icmp_lt (tgt := 107) hx hb dX5_paper_97 (by decide) (fun c_2 => ?_) (fun c_2 => ?_)
    ·
      refine lv_iconst (v := (-1)) hx hb dX5_paper_107 (by decide) ?_
      exact hret _ _ _ _ _ sl9 _ _ Mz9 (rfl) (by simp only [if_neg c_1, if_pos c_2]) (rfl) (Nat.le_of_ble_eq_true rfl) (Nat.le_of_ble_eq_true rfl) dX5_paper_108
    ·
      refine lv_aload_n hx hb dX5_paper_100 rfl (lv_at hl9 1 rfl) ?_
      refine z_getf Z Mz9 hin0 3 rfl rfl 0 (by decide) L263 rfl (v := .int (β 0)) rfl dX5_paper_101 ?_
      refine lv_goto (tgt := 108) hx hb dX5_paper_104 (by decide) ?_
      exact hret _ _ _ _ _ sl9 _ _ Mz9 (rfl) (by simp only [if_neg c_1, if_neg c_2]) (rfl) (Nat.le_of_ble_eq_true rfl) (Nat.le_of_ble_eq_true rfl) dX5_paper_108
set_option maxHeartbeats 4000000 in
set_option maxRecDepth 100000 in
theorem ch_paper_n (l : Launch) (D : va_G) (T : Nat → ClassId) (o : Nat) (ad : Nat → Nat) (lo : Int32) (kb : Int32) (rb n g : Nat) (fb : Nat → Option Nat) (h a q u : Nat) (β : Nat → Int32) (i : Nat) (hi : i < g) (hg : g ≤ n) (hn : n ≤ 40000) (hf : fb i = some h) (tm : Nat → Int32) (ls9 : Int32) (h1 : ¬ ls9 < 0) (h2 : ls9 ≤ 70) (hn9 : β 17 = 0 ∨ ¬ β 12 = 0 ∨ 0 < β 11 ∨ isl (β 14) (nI 20) = 0) : ZI l yX5_paper wsX5_paper (zrm 4 85) D T [(o, .inr (6, hsF ad lo)), (ad 7, .inr (0, [.int (kb), .ref rb, .int (nI (g))])), (rb, .inl (T 3, n, qa fb)), (h, .inr (1, biF a q u β)), (ad 9, .inl (T 0, 20, .inl tm))] [(o, .inr (6, hsF ad lo)), (ad 7, .inr (0, [.int (kb), .ref rb, .int (nI (g))])), (rb, .inl (T 3, n, qa fb)), (h, .inr (1, biF a q u β)), (ad 9, .inl (T 0, 20, .inl tm))] [.ref o, .int (nI (i)), .int (ls9)] (-1) 0 0 := by
  refine z_inI (cc := cX5_paper) (maxL := 5) (rt := .int) (by decide +kernel) rfl (Nat.le_of_ble_eq_true rfl) ?_
  intro p e s m args below meth c sl9 A Q Z hnm Mz9 hl9 hret
  have Z : zC p s m args c cX5_paper 5 RX5 wsX5_paper D T A := Z
  have hx := Z.1.1
  have hb := Z.1.2.1
  have hts := Z.1.2.2.2.2
  have hin5 : ∀ w ∈ wsX50, w ∈ wsX5_paper := by decide +kernel
  have hinL : ∀ w ∈ wsJx4a65c0, w ∈ wsX5_paper := by decide +kernel
  have hin0 : ∀ w ∈ wsX00, w ∈ wsX5_paper := by decide +kernel
  have L266 := hts (.fieldLink RX5 266 "AnvilHouse$Billet" "part" "Z") (by decide +kernel)
  have L125 := hts (.fieldLink RX5 125 "AnvilHouse$Billet" "cracked" "Z") (by decide +kernel)
  have L122 := hts (.fieldLink RX5 122 "AnvilHouse$Billet" "laps" "I") (by decide +kernel)
  have L132 := hts (.fieldLink RX5 132 "AnvilHouse$Billet" "load" "I") (by decide +kernel)
  have L28 := hts (.fieldLink RX5 28 "AnvilHouse" "testedMelts" "[I") (by decide +kernel)
  have L263 := hts (.fieldLink RX5 263 "AnvilHouse$Billet" "melt" "I") (by decide +kernel)
  have hl9 : lv_has sl9 5 [(0, .ref o), (1, .int (nI (i))), (2, .int (ls9))] := hl9
  refine lv_aload_n hx hb dX5_paper_0 rfl (lv_at hl9 0 rfl) ?_
  refine lv_iload_n hx hb dX5_paper_1 rfl (lv_at hl9 1 rfl) ?_
  refine z_callVr (As := [.int (nI (i))]) (rest := []) (wc := [(o, .inr (6, hsF ad lo)), (ad 7, .inr (0, [.int (kb), .ref rb, .int (nI (g))])), (rb, .inl (T 3, n, qa fb)), (h, .inr (1, biF a q u β))]) Z Mz9 (ch_billetAt l D T o ad lo kb rb n g fb h (biF a q u β) i hi hg hn hf) (cwV 1 hts gX5_paper_X5_billetAt rfl rfl rfl (by decide +kernel) ⟨Nat.le_of_ble_eq_true rfl, Nat.le_of_ble_eq_true rfl⟩) [0, 1, 2, 3] rfl (by decide) (fun _ j hj => rfl) (fun _ => Nat.le_refl _) (va_recv Z.2.1 Mz9.1 (ci := 6) (q0 := 0) rfl rfl) rfl hl9.1 (Nat.le_of_ble_eq_true rfl) dX5_paper_2 ⟨Nat.le_of_ble_eq_true rfl, Nat.le_of_ble_eq_true rfl⟩ rfl (fun _ Hp9 lc9 Mz9 => ?_)
  have Mz9 : zM D A s.heap [(o, .inr (6, hsF ad lo)), (ad 7, .inr (0, [.int (kb), .ref rb, .int (nI (g))])), (rb, .inl (T 3, n, qa fb)), (h, .inr (1, biF a q u β)), (ad 9, .inl (T 0, 20, .inl tm))] _ _ := Mz9
  refine lv_astore_n (lv' := [(3, .ref h), (0, .ref o), (1, .int (nI (i))), (2, .int (ls9))]) hx hb dX5_paper_5 rfl hl9 (by decide) rfl (fun sl9 hl9 => ?_)
  refine lv_iload_n hx hb dX5_paper_6 rfl (lv_at hl9 3 rfl) ?_
  refine lv_if_lt (tgt := 16) hx hb dX5_paper_7 (by decide) (fun h => absurd h (h1)) (fun _ => ?_)
  refine lv_iload_n hx hb dX5_paper_10 rfl (lv_at hl9 3 rfl) ?_
  refine lv_bipush (v := 70) hx hb dX5_paper_11 (by decide) ?_
  refine lv_icmp_le (tgt := 27) hx hb dX5_paper_13 (by decide) (fun _ => ?_) (fun h => absurd h (fun z => z h2))
  refine lv_aload_n hx hb dX5_paper_27 rfl (lv_at hl9 0 rfl) ?_
  refine z_getf Z Mz9 hin0 3 rfl rfl 17 (by decide) L266 rfl (v := .int (β 17)) rfl dX5_paper_28 ?_
  refine lv_if_eq (tgt := 59) hx hb dX5_paper_31 (by decide) (fun c_1 => ?_) (fun c_1 => ?_)
  ·
    refine lv_iconst (v := (-1)) hx hb dX5_paper_59 (by decide) ?_
    exact hret _ _ _ _ _ sl9 _ _ Mz9 (rfl) (rfl) (rfl) (Nat.le_of_ble_eq_true rfl) (Nat.le_of_ble_eq_true rfl) dX5_paper_60
  ·
    refine lv_aload_n hx hb dX5_paper_34 rfl (lv_at hl9 0 rfl) ?_
    refine z_getf Z Mz9 hin0 3 rfl rfl 12 (by decide) L125 rfl (v := .int (β 12)) rfl dX5_paper_35 ?_
    refine lv_if_ne (tgt := 59) hx hb dX5_paper_38 (by decide) (fun c_2 => ?_) (fun c_2 => ?_)
    ·
      refine lv_iconst (v := (-1)) hx hb dX5_paper_59 (by decide) ?_
      exact hret _ _ _ _ _ sl9 _ _ Mz9 (rfl) (rfl) (rfl) (Nat.le_of_ble_eq_true rfl) (Nat.le_of_ble_eq_true rfl) dX5_paper_60
    ·
      refine lv_aload_n hx hb dX5_paper_41 rfl (lv_at hl9 0 rfl) ?_
      refine z_getf Z Mz9 hin0 3 rfl rfl 11 (by decide) L122 rfl (v := .int (β 11)) rfl dX5_paper_42 ?_
      refine lv_if_gt (tgt := 59) hx hb dX5_paper_45 (by decide) (fun c_3 => ?_) (fun c_3 => ?_)
      ·
        refine lv_iconst (v := (-1)) hx hb dX5_paper_59 (by decide) ?_
        exact hret _ _ _ _ _ sl9 _ _ Mz9 (rfl) (rfl) (rfl) (Nat.le_of_ble_eq_true rfl) (Nat.le_of_ble_eq_true rfl) dX5_paper_60
      ·
        refine lv_aload_n hx hb dX5_paper_48 rfl (lv_at hl9 1 rfl) ?_
        refine lv_aload_n hx hb dX5_paper_49 rfl (lv_at hl9 0 rfl) ?_
        refine z_getf Z Mz9 hin0 3 rfl rfl 14 (by decide) L132 rfl (v := .int (β 14)) rfl dX5_paper_50 ?_
        refine z_callVi (As := [.int (β 14)]) (rest := []) (rv := isl (β 14) (nI 20)) (wc := [(o, .inr (6, hsF ad lo)), (ad 9, .inl (T 0, 20, .inl tm))]) (wc' := [(o, .inr (6, hsF ad lo)), (ad 9, .inl (T 0, 20, .inl tm))]) Z Mz9 (ch_isLoad l D T o ad lo tm (β 14)) (cwV 1 hts gX5_paper_X5_isLoad rfl rfl rfl (by decide +kernel) ⟨Nat.le_of_ble_eq_true rfl, Nat.le_of_ble_eq_true rfl⟩) [0, 4] rfl (by decide) (fun j hj => rfl) (Nat.le_refl _) (va_recv Z.2.1 Mz9.1 (ci := 6) (q0 := 0) rfl rfl) rfl hl9.1 (Nat.le_of_ble_eq_true rfl) dX5_paper_53 ⟨Nat.le_of_ble_eq_true rfl, Nat.le_of_ble_eq_true rfl⟩ rfl (fun Hp9 lc9 Mz9 => ?_)
        have Mz9 : zM D A s.heap [(o, .inr (6, hsF ad lo)), (ad 7, .inr (0, [.int (kb), .ref rb, .int (nI (g))])), (rb, .inl (T 3, n, qa fb)), (h, .inr (1, biF a q u β)), (ad 9, .inl (T 0, 20, .inl tm))] _ _ := Mz9
        refine lv_if_ne (tgt := 61) hx hb dX5_paper_56 (by decide) (fun c_4 => ?_) (fun c_4 => ?_)
        ·
          exact False.elim (by rcases hn9 with h | h | h | h <;> first | exact absurd h c_1 | exact absurd c_1 h | exact absurd h (Int32.not_lt.mpr c_1) | exact absurd (Int32.not_le.mp c_1) (Int32.not_lt.mpr h) | exact absurd c_1 (Int32.not_lt.mpr h) | exact absurd h c_2 | exact absurd c_2 h | exact absurd h (Int32.not_lt.mpr c_2) | exact absurd (Int32.not_le.mp c_2) (Int32.not_lt.mpr h) | exact absurd c_2 (Int32.not_lt.mpr h) | exact absurd h c_3 | exact absurd c_3 h | exact absurd h (Int32.not_lt.mpr c_3) | exact absurd (Int32.not_le.mp c_3) (Int32.not_lt.mpr h) | exact absurd c_3 (Int32.not_lt.mpr h) | exact absurd h c_4 | exact absurd c_4 h | exact absurd h (Int32.not_lt.mpr c_4) | exact absurd (Int32.not_le.mp c_4) (Int32.not_lt.mpr h) | exact absurd c_4 (Int32.not_lt.mpr h))
        ·
          refine lv_iconst (v := (-1)) hx hb dX5_paper_59 (by decide) ?_
          exact hret _ _ _ _ _ sl9 _ _ Mz9 (rfl) (rfl) (rfl) (Nat.le_of_ble_eq_true rfl) (Nat.le_of_ble_eq_true rfl) dX5_paper_60
set_option maxHeartbeats 4000000 in
set_option maxRecDepth 100000 in
theorem ch_paper_b (l : Launch) (hfl : l.stackTraces = false) (D : va_G) (T : Nat → ClassId) (ea mi : Nat) (sa : Nat → Nat) (o : Nat) (ad : Nat → Nat) (lo : Int32) (kb : Int32) (rb g : Nat) (v : Int32) (t : Int32) (hv9 : v < 0 ∨ nI g ≤ v) : ZB l yX5_paper wsX5_paper (zrmc 7 103 1 6) (zW ea mi sa) D T [(o, .inr (6, hsF ad lo)), (ad 7, .inr (0, [.int (kb), .ref rb, .int (nI (g))]))] [.ref o, .int (v), .int (t)] "java/lang/IndexOutOfBoundsException" := by
  refine z_inB (cc := cX5_paper) (maxL := 5) (ret := (some .int)) (by decide +kernel) rfl (Nat.le_of_ble_eq_true rfl) ?_
  intro p e s m args below meth c sl9 A hA Z hW Mz9 hl9 hE
  have Z : zC p s m args c cX5_paper 5 RX5 wsX5_paper D T A := Z
  have hx := Z.1.1
  have hb := Z.1.2.1
  have hts := Z.1.2.2.2.2
  have hin5 : ∀ w ∈ wsX50, w ∈ wsX5_paper := by decide +kernel
  have hinL : ∀ w ∈ wsJx4a65c0, w ∈ wsX5_paper := by decide +kernel
  have hin0 : ∀ w ∈ wsX00, w ∈ wsX5_paper := by decide +kernel
  have L266 := hts (.fieldLink RX5 266 "AnvilHouse$Billet" "part" "Z") (by decide +kernel)
  have L125 := hts (.fieldLink RX5 125 "AnvilHouse$Billet" "cracked" "Z") (by decide +kernel)
  have L122 := hts (.fieldLink RX5 122 "AnvilHouse$Billet" "laps" "I") (by decide +kernel)
  have L132 := hts (.fieldLink RX5 132 "AnvilHouse$Billet" "load" "I") (by decide +kernel)
  have L28 := hts (.fieldLink RX5 28 "AnvilHouse" "testedMelts" "[I") (by decide +kernel)
  have L263 := hts (.fieldLink RX5 263 "AnvilHouse$Billet" "melt" "I") (by decide +kernel)
  have hl9 : lv_has sl9 5 [(0, .ref o), (1, .int (v)), (2, .int (t))] := hl9
  refine lv_aload_n hx hb dX5_paper_0 rfl (lv_at hl9 0 rfl) ?_
  refine lv_iload_n hx hb dX5_paper_1 rfl (lv_at hl9 1 rfl) ?_
  exact z_callB (As := [.int (v)]) (rest := []) (wc := [(o, .inr (6, hsF ad lo)), (ad 7, .inr (0, [.int (kb), .ref rb, .int (nI (g))]))]) (zW_k ea mi sa) hW Z Mz9 hA hE (ch_billetAt_bad l hfl D T ea mi sa o ad lo kb rb g v hv9) (cwV 1 hts gX5_paper_X5_billetAt rfl rfl rfl (by decide +kernel) ⟨Nat.le_of_ble_eq_true rfl, Nat.le_of_ble_eq_true rfl⟩) [0, 1] rfl (by decide) (va_recv Z.2.1 Mz9.1 (ci := 6) (q0 := 0) rfl rfl) rfl hl9.1 (Nat.le_of_ble_eq_true rfl) dX5_paper_2 ⟨Nat.le_of_ble_eq_true rfl, Nat.le_of_ble_eq_true rfl⟩ ⟨Nat.le_of_ble_eq_true rfl, Nat.le_of_ble_eq_true rfl⟩ rfl rfl
set_option maxHeartbeats 4000000 in
set_option maxRecDepth 100000 in
theorem ch_paper_a (l : Launch) (hfl : l.stackTraces = false) (D : va_G) (T : Nat → ClassId) (ea mi : Nat) (sa : Nat → Nat) (o : Nat) (ad : Nat → Nat) (lo : Int32) (kb : Int32) (rb n g : Nat) (fb : Nat → Option Nat) (h a q u : Nat) (β : Nat → Int32) (i : Nat) (hi : i < g) (hg : g ≤ n) (hn : n ≤ 40000) (hf : fb i = some h) (ls9 : Int32) (hv9 : ls9 < 0 ∨ 70 < ls9) : ZB l yX5_paper wsX5_paper (zrmc 6 85 1 6) (zW ea mi sa) D T [(o, .inr (6, hsF ad lo)), (ad 7, .inr (0, [.int (kb), .ref rb, .int (nI (g))])), (rb, .inl (T 3, n, qa fb)), (h, .inr (1, biF a q u β))] [.ref o, .int (nI (i)), .int (ls9)] "java/lang/IllegalArgumentException" := by
  refine z_inB (cc := cX5_paper) (maxL := 5) (ret := (some .int)) (by decide +kernel) rfl (Nat.le_of_ble_eq_true rfl) ?_
  intro p e s m args below meth c sl9 A hA Z hW Mz9 hl9 hE
  have Z : zC p s m args c cX5_paper 5 RX5 wsX5_paper D T A := Z
  have hx := Z.1.1
  have hb := Z.1.2.1
  have hts := Z.1.2.2.2.2
  have hin5 : ∀ w ∈ wsX50, w ∈ wsX5_paper := by decide +kernel
  have hinL : ∀ w ∈ wsJx4a65c0, w ∈ wsX5_paper := by decide +kernel
  have hin0 : ∀ w ∈ wsX00, w ∈ wsX5_paper := by decide +kernel
  have hX9 : ∀ w ∈ Cond.classLink RX5 51 "java/lang/IllegalArgumentException" :: Cond.initialized "java/lang/IllegalArgumentException" :: (vx_atS RX5 55 "java/lang/IllegalArgumentException" zNm).filter goodWord, w ∈ wsX5_paper := by decide +kernel
  have L266 := hts (.fieldLink RX5 266 "AnvilHouse$Billet" "part" "Z") (by decide +kernel)
  have L125 := hts (.fieldLink RX5 125 "AnvilHouse$Billet" "cracked" "Z") (by decide +kernel)
  have L122 := hts (.fieldLink RX5 122 "AnvilHouse$Billet" "laps" "I") (by decide +kernel)
  have L132 := hts (.fieldLink RX5 132 "AnvilHouse$Billet" "load" "I") (by decide +kernel)
  have L28 := hts (.fieldLink RX5 28 "AnvilHouse" "testedMelts" "[I") (by decide +kernel)
  have L263 := hts (.fieldLink RX5 263 "AnvilHouse$Billet" "melt" "I") (by decide +kernel)
  have hl9 : lv_has sl9 5 [(0, .ref o), (1, .int (nI (i))), (2, .int (ls9))] := hl9
  refine lv_aload_n hx hb dX5_paper_0 rfl (lv_at hl9 0 rfl) ?_
  refine lv_iload_n hx hb dX5_paper_1 rfl (lv_at hl9 1 rfl) ?_
  refine z_callVr (As := [.int (nI (i))]) (rest := []) (wc := [(o, .inr (6, hsF ad lo)), (ad 7, .inr (0, [.int (kb), .ref rb, .int (nI (g))])), (rb, .inl (T 3, n, qa fb)), (h, .inr (1, biF a q u β))]) Z Mz9 (ch_billetAt l D T o ad lo kb rb n g fb h (biF a q u β) i hi hg hn hf) (cwV 1 hts gX5_paper_X5_billetAt rfl rfl rfl (by decide +kernel) ⟨Nat.le_of_ble_eq_true rfl, Nat.le_of_ble_eq_true rfl⟩) [0, 1, 2, 3] rfl (by decide) (fun _ j hj => rfl) (fun _ => Nat.le_refl _) (va_recv Z.2.1 Mz9.1 (ci := 6) (q0 := 0) rfl rfl) rfl hl9.1 (Nat.le_of_ble_eq_true rfl) dX5_paper_2 ⟨Nat.le_of_ble_eq_true rfl, Nat.le_of_ble_eq_true rfl⟩ rfl (fun _ Hp9 lc9 Mz9 => ?_)
  have Mz9 : zM D A s.heap [(o, .inr (6, hsF ad lo)), (ad 7, .inr (0, [.int (kb), .ref rb, .int (nI (g))])), (rb, .inl (T 3, n, qa fb)), (h, .inr (1, biF a q u β))] _ _ := Mz9
  refine lv_astore_n (lv' := [(3, .ref h), (0, .ref o), (1, .int (nI (i))), (2, .int (ls9))]) hx hb dX5_paper_5 rfl hl9 (by decide) rfl (fun sl9 hl9 => ?_)
  refine lv_iload_n hx hb dX5_paper_6 rfl (lv_at hl9 3 rfl) ?_
  refine lv_if_lt (tgt := 16) hx hb dX5_paper_7 (by decide) (fun c_1 => ?_) (fun c_1 => ?_)
  ·
    exact z_throwW Z hW Mz9 hA hE hl9.1 hfl zThr_A hX9 (is := 269) (text := "0 to 70 can be asked") (by decide +kernel) dX5_paper_16 dX5_paper_19 dX5_paper_20 dX5_paper_23 dX5_paper_26 (Nat.le_of_ble_eq_true rfl) (Nat.le_of_ble_eq_true rfl) ⟨Nat.le_of_ble_eq_true rfl, Nat.le_of_ble_eq_true rfl⟩ ⟨Nat.le_of_ble_eq_true rfl, Nat.le_of_ble_eq_true rfl⟩ rfl
  ·
    refine lv_iload_n hx hb dX5_paper_10 rfl (lv_at hl9 3 rfl) ?_
    refine lv_bipush (v := 70) hx hb dX5_paper_11 (by decide) ?_
    refine lv_icmp_le (tgt := 27) hx hb dX5_paper_13 (by decide) (fun c_2 => ?_) (fun c_2 => ?_)
    ·
      exact False.elim (by rcases hv9 with h | h <;> first | exact absurd h c_1 | exact absurd c_1 h | exact absurd h (Int32.not_lt.mpr c_1) | exact absurd (Int32.not_le.mp c_1) (Int32.not_lt.mpr h) | exact absurd c_1 (Int32.not_lt.mpr h) | exact absurd h c_2 | exact absurd c_2 h | exact absurd h (Int32.not_lt.mpr c_2) | exact absurd (Int32.not_le.mp c_2) (Int32.not_lt.mpr h) | exact absurd c_2 (Int32.not_lt.mpr h))
    ·
      exact z_throwW Z hW Mz9 hA hE hl9.1 hfl zThr_A hX9 (is := 269) (text := "0 to 70 can be asked") (by decide +kernel) dX5_paper_16 dX5_paper_19 dX5_paper_20 dX5_paper_23 dX5_paper_26 (Nat.le_of_ble_eq_true rfl) (Nat.le_of_ble_eq_true rfl) ⟨Nat.le_of_ble_eq_true rfl, Nat.le_of_ble_eq_true rfl⟩ ⟨Nat.le_of_ble_eq_true rfl, Nat.le_of_ble_eq_true rfl⟩ rfl
set_option maxHeartbeats 4000000 in
set_option maxRecDepth 100000 in
theorem ch_layer (l : Launch) (D : va_G) (T : Nat → ClassId) (o : Nat) (ad : Nat → Nat) (lo : Int32) (kb : Int32) (rb n g : Nat) (fb : Nat → Option Nat) (h a q u : Nat) (β α κ τ : Nat → Int32) (i : Nat) (hi : i < g) (hg : g ≤ n) (hn : n ≤ 40000) (hf : fb i = some h) (p9 act : Nat) (hp : p9 < 256) (ha : act < 3) (h13 : β 13 = nI p9) (h8 : 900 ≤ β 8) : ZI l yX5_layer wsX5_layer (zrm 4 85) D T [(o, .inr (6, hsF ad lo)), (ad 7, .inr (0, [.int (kb), .ref rb, .int (nI (g))])), (rb, .inl (T 3, n, qa fb)), (h, .inr (1, biF a q u β)), (a, .inl (T 0, 8, .inl α)), (q, .inl (T 0, 8, .inl κ)), (u, .inr (5, [.int (τ 0), .int (τ 1), .int (τ 2)]))] [(o, .inr (6, hsF ad lo)), (ad 7, .inr (0, [.int (kb), .ref rb, .int (nI (g))])), (rb, .inl (T 3, n, qa fb)), (h, .inr (1, biF a q u (upd β 13 (nI (actN p9 act))))), (a, .inl (T 0, 8, .inl α)), (q, .inl (T 0, 8, .inl κ)), (u, .inr (5, [.int (τ 0), .int (τ 1), .int (τ 2)]))] [.ref o, .int (nI (i)), .int (nI (act))] (nI (actN p9 act)) 0 0 := by
  refine z_inI (cc := cX5_layer) (maxL := 4) (rt := .int) (by decide +kernel) rfl (Nat.le_of_ble_eq_true rfl) ?_
  intro p e s m args below meth c sl9 A Q Z hnm Mz9 hl9 hret
  have Z : zC p s m args c cX5_layer 4 RX5 wsX5_layer D T A := Z
  have hx := Z.1.1
  have hb := Z.1.2.1
  have hts := Z.1.2.2.2.2
  have hin5 : ∀ w ∈ wsX50, w ∈ wsX5_layer := by decide +kernel
  have hinL : ∀ w ∈ wsJx4a65c0, w ∈ wsX5_layer := by decide +kernel
  have hin0 : ∀ w ∈ wsX00, w ∈ wsX5_layer := by decide +kernel
  have L110 := hts (.fieldLink RX5 110 "AnvilHouse$Billet" "core" "I") (by decide +kernel)
  have L129 := hts (.fieldLink RX5 129 "AnvilHouse$Billet" "layers" "I") (by decide +kernel)
  have hl9 : lv_has sl9 4 [(0, .ref o), (1, .int (nI (i))), (2, .int (nI (act)))] := hl9
  refine lv_aload_n hx hb dX5_layer_0 rfl (lv_at hl9 0 rfl) ?_
  refine lv_iload_n hx hb dX5_layer_1 rfl (lv_at hl9 1 rfl) ?_
  refine z_callVr (As := [.int (nI (i))]) (rest := []) (wc := [(o, .inr (6, hsF ad lo)), (ad 7, .inr (0, [.int (kb), .ref rb, .int (nI (g))])), (rb, .inl (T 3, n, qa fb)), (h, .inr (1, biF a q u β))]) Z Mz9 (ch_billetAt l D T o ad lo kb rb n g fb h (biF a q u β) i hi hg hn hf) (cwV 1 hts gX5_layer_X5_billetAt rfl rfl rfl (by decide +kernel) ⟨Nat.le_of_ble_eq_true rfl, Nat.le_of_ble_eq_true rfl⟩) [0, 1, 2, 3] rfl (by decide) (fun _ j hj => rfl) (fun _ => Nat.le_refl _) (va_recv Z.2.1 Mz9.1 (ci := 6) (q0 := 0) rfl rfl) rfl hl9.1 (Nat.le_of_ble_eq_true rfl) dX5_layer_2 ⟨Nat.le_of_ble_eq_true rfl, Nat.le_of_ble_eq_true rfl⟩ rfl (fun _ Hp9 lc9 Mz9 => ?_)
  have Mz9 : zM D A s.heap [(o, .inr (6, hsF ad lo)), (ad 7, .inr (0, [.int (kb), .ref rb, .int (nI (g))])), (rb, .inl (T 3, n, qa fb)), (h, .inr (1, biF a q u β)), (a, .inl (T 0, 8, .inl α)), (q, .inl (T 0, 8, .inl κ)), (u, .inr (5, [.int (τ 0), .int (τ 1), .int (τ 2)]))] _ _ := Mz9
  refine lv_astore_n (lv' := [(3, .ref h), (0, .ref o), (1, .int (nI (i))), (2, .int (nI (act)))]) hx hb dX5_layer_5 rfl hl9 (by decide) rfl (fun sl9 hl9 => ?_)
  refine lv_iload_n hx hb dX5_layer_6 rfl (lv_at hl9 3 rfl) ?_
  refine zn_if_lt (a := act) (tgt := 15) (by omega) hx hb dX5_layer_7 (by decide) (fun h => absurd h (fun h => h)) (fun _ => ?_)
  refine lv_iload_n hx hb dX5_layer_10 rfl (lv_at hl9 3 rfl) ?_
  refine lv_iconst (v := 2) hx hb dX5_layer_11 (by decide) ?_
  refine zn_icmp_le (a := act) (b := 2) (tgt := 26) (by omega) (by decide) hx hb dX5_layer_12 (by decide) (fun _ => ?_) (fun h => absurd h (by omega))
  refine lv_aload_n hx hb dX5_layer_26 rfl (lv_at hl9 0 rfl) ?_
  refine z_getf Z Mz9 hin0 3 rfl rfl 8 (by decide) L110 rfl (v := .int (β 8)) rfl dX5_layer_27 ?_
  refine lv_sipush (v := 900) hx hb dX5_layer_30 (by decide) ?_
  refine lv_icmp_ge (tgt := 47) hx hb dX5_layer_33 (by decide) (fun _ => ?_) (fun h => absurd h (fun z => z h8))
  refine lv_aload_n hx hb dX5_layer_47 rfl (lv_at hl9 0 rfl) ?_
  refine lv_aload_n hx hb dX5_layer_48 rfl (lv_at hl9 0 rfl) ?_
  refine z_getf Z Mz9 hin0 3 rfl rfl 13 (by decide) L129 rfl (v := .int (β 13)) rfl dX5_layer_49 ?_
  refine zn_top (y := nI (p9)) (h13) ?_
  refine lv_iload_n hx hb dX5_layer_52 rfl (lv_at hl9 3 rfl) ?_
  refine z_callSi (As := [.int (nI (p9)), .int (nI (act))]) (rest := [.ref h]) Z.1 (cs_behind l (p9) (act) hp ha) (va_cwS 2 hts gX5_layer_X2_behind rfl rfl rfl (by decide +kernel) ⟨Nat.le_of_ble_eq_true rfl, Nat.le_of_ble_eq_true rfl⟩) rfl hl9.1 (Nat.le_of_ble_eq_true rfl) dX5_layer_53 ⟨Nat.le_of_ble_eq_true rfl, Nat.le_of_ble_eq_true rfl⟩ rfl ?_
  refine z_putf Z Mz9 hin0 tyX0 tyX0_ok nmX0 3 rfl rfl 13 (by decide) L129 rfl rfl (ty := .int) rfl rfl rfl (Nat.le_of_ble_eq_true rfl) (ws' := [(o, .inr (6, hsF ad lo)), (ad 7, .inr (0, [.int (kb), .ref rb, .int (nI (g))])), (rb, .inl (T 3, n, qa fb)), (h, .inr (1, biF a q u (upd β 13 (nI (actN p9 act))))), (a, .inl (T 0, 8, .inl α)), (q, .inl (T 0, 8, .inl κ)), (u, .inr (5, [.int (τ 0), .int (τ 1), .int (τ 2)]))]) rfl dX5_layer_56 (fun Hp9 lc9 Mz9 => ?_)
  refine lv_aload_n hx hb dX5_layer_59 rfl (lv_at hl9 0 rfl) ?_
  refine z_getf Z Mz9 hin0 3 rfl rfl 13 (by decide) L129 rfl (v := .int (nI (actN p9 act))) rfl dX5_layer_60 ?_
  exact hret _ _ _ _ _ sl9 _ _ Mz9 (rfl) (rfl) (rfl) (Nat.le_of_ble_eq_true rfl) (Nat.le_of_ble_eq_true rfl) dX5_layer_63
set_option maxHeartbeats 4000000 in
set_option maxRecDepth 100000 in
theorem ch_layer_b (l : Launch) (hfl : l.stackTraces = false) (D : va_G) (T : Nat → ClassId) (ea mi : Nat) (sa : Nat → Nat) (o : Nat) (ad : Nat → Nat) (lo : Int32) (kb : Int32) (rb g : Nat) (v : Int32) (t : Int32) (hv9 : v < 0 ∨ nI g ≤ v) : ZB l yX5_layer wsX5_layer (zrmc 7 103 1 6) (zW ea mi sa) D T [(o, .inr (6, hsF ad lo)), (ad 7, .inr (0, [.int (kb), .ref rb, .int (nI (g))]))] [.ref o, .int (v), .int (t)] "java/lang/IndexOutOfBoundsException" := by
  refine z_inB (cc := cX5_layer) (maxL := 4) (ret := (some .int)) (by decide +kernel) rfl (Nat.le_of_ble_eq_true rfl) ?_
  intro p e s m args below meth c sl9 A hA Z hW Mz9 hl9 hE
  have Z : zC p s m args c cX5_layer 4 RX5 wsX5_layer D T A := Z
  have hx := Z.1.1
  have hb := Z.1.2.1
  have hts := Z.1.2.2.2.2
  have hin5 : ∀ w ∈ wsX50, w ∈ wsX5_layer := by decide +kernel
  have hinL : ∀ w ∈ wsJx4a65c0, w ∈ wsX5_layer := by decide +kernel
  have hin0 : ∀ w ∈ wsX00, w ∈ wsX5_layer := by decide +kernel
  have L110 := hts (.fieldLink RX5 110 "AnvilHouse$Billet" "core" "I") (by decide +kernel)
  have L129 := hts (.fieldLink RX5 129 "AnvilHouse$Billet" "layers" "I") (by decide +kernel)
  have hl9 : lv_has sl9 4 [(0, .ref o), (1, .int (v)), (2, .int (t))] := hl9
  refine lv_aload_n hx hb dX5_layer_0 rfl (lv_at hl9 0 rfl) ?_
  refine lv_iload_n hx hb dX5_layer_1 rfl (lv_at hl9 1 rfl) ?_
  exact z_callB (As := [.int (v)]) (rest := []) (wc := [(o, .inr (6, hsF ad lo)), (ad 7, .inr (0, [.int (kb), .ref rb, .int (nI (g))]))]) (zW_k ea mi sa) hW Z Mz9 hA hE (ch_billetAt_bad l hfl D T ea mi sa o ad lo kb rb g v hv9) (cwV 1 hts gX5_layer_X5_billetAt rfl rfl rfl (by decide +kernel) ⟨Nat.le_of_ble_eq_true rfl, Nat.le_of_ble_eq_true rfl⟩) [0, 1] rfl (by decide) (va_recv Z.2.1 Mz9.1 (ci := 6) (q0 := 0) rfl rfl) rfl hl9.1 (Nat.le_of_ble_eq_true rfl) dX5_layer_2 ⟨Nat.le_of_ble_eq_true rfl, Nat.le_of_ble_eq_true rfl⟩ ⟨Nat.le_of_ble_eq_true rfl, Nat.le_of_ble_eq_true rfl⟩ rfl rfl
set_option maxHeartbeats 4000000 in
set_option maxRecDepth 100000 in
theorem ch_layer_a (l : Launch) (hfl : l.stackTraces = false) (D : va_G) (T : Nat → ClassId) (ea mi : Nat) (sa : Nat → Nat) (o : Nat) (ad : Nat → Nat) (lo : Int32) (kb : Int32) (rb n g : Nat) (fb : Nat → Option Nat) (h a q u : Nat) (β : Nat → Int32) (i : Nat) (hi : i < g) (hg : g ≤ n) (hn : n ≤ 40000) (hf : fb i = some h) (w9 : Int32) (hv9 : w9 < 0 ∨ 2 < w9) : ZB l yX5_layer wsX5_layer (zrmc 6 85 1 6) (zW ea mi sa) D T [(o, .inr (6, hsF ad lo)), (ad 7, .inr (0, [.int (kb), .ref rb, .int (nI (g))])), (rb, .inl (T 3, n, qa fb)), (h, .inr (1, biF a q u β))] [.ref o, .int (nI (i)), .int (w9)] "java/lang/IllegalArgumentException" := by
  refine z_inB (cc := cX5_layer) (maxL := 4) (ret := (some .int)) (by decide +kernel) rfl (Nat.le_of_ble_eq_true rfl) ?_
  intro p e s m args below meth c sl9 A hA Z hW Mz9 hl9 hE
  have Z : zC p s m args c cX5_layer 4 RX5 wsX5_layer D T A := Z
  have hx := Z.1.1
  have hb := Z.1.2.1
  have hts := Z.1.2.2.2.2
  have hin5 : ∀ w ∈ wsX50, w ∈ wsX5_layer := by decide +kernel
  have hinL : ∀ w ∈ wsJx4a65c0, w ∈ wsX5_layer := by decide +kernel
  have hin0 : ∀ w ∈ wsX00, w ∈ wsX5_layer := by decide +kernel
  have hX9 : ∀ w ∈ Cond.classLink RX5 51 "java/lang/IllegalArgumentException" :: Cond.initialized "java/lang/IllegalArgumentException" :: (vx_atS RX5 55 "java/lang/IllegalArgumentException" zNm).filter goodWord, w ∈ wsX5_layer := by decide +kernel
  have L110 := hts (.fieldLink RX5 110 "AnvilHouse$Billet" "core" "I") (by decide +kernel)
  have L129 := hts (.fieldLink RX5 129 "AnvilHouse$Billet" "layers" "I") (by decide +kernel)
  have hl9 : lv_has sl9 4 [(0, .ref o), (1, .int (nI (i))), (2, .int (w9))] := hl9
  refine lv_aload_n hx hb dX5_layer_0 rfl (lv_at hl9 0 rfl) ?_
  refine lv_iload_n hx hb dX5_layer_1 rfl (lv_at hl9 1 rfl) ?_
  refine z_callVr (As := [.int (nI (i))]) (rest := []) (wc := [(o, .inr (6, hsF ad lo)), (ad 7, .inr (0, [.int (kb), .ref rb, .int (nI (g))])), (rb, .inl (T 3, n, qa fb)), (h, .inr (1, biF a q u β))]) Z Mz9 (ch_billetAt l D T o ad lo kb rb n g fb h (biF a q u β) i hi hg hn hf) (cwV 1 hts gX5_layer_X5_billetAt rfl rfl rfl (by decide +kernel) ⟨Nat.le_of_ble_eq_true rfl, Nat.le_of_ble_eq_true rfl⟩) [0, 1, 2, 3] rfl (by decide) (fun _ j hj => rfl) (fun _ => Nat.le_refl _) (va_recv Z.2.1 Mz9.1 (ci := 6) (q0 := 0) rfl rfl) rfl hl9.1 (Nat.le_of_ble_eq_true rfl) dX5_layer_2 ⟨Nat.le_of_ble_eq_true rfl, Nat.le_of_ble_eq_true rfl⟩ rfl (fun _ Hp9 lc9 Mz9 => ?_)
  have Mz9 : zM D A s.heap [(o, .inr (6, hsF ad lo)), (ad 7, .inr (0, [.int (kb), .ref rb, .int (nI (g))])), (rb, .inl (T 3, n, qa fb)), (h, .inr (1, biF a q u β))] _ _ := Mz9
  refine lv_astore_n (lv' := [(3, .ref h), (0, .ref o), (1, .int (nI (i))), (2, .int (w9))]) hx hb dX5_layer_5 rfl hl9 (by decide) rfl (fun sl9 hl9 => ?_)
  refine lv_iload_n hx hb dX5_layer_6 rfl (lv_at hl9 3 rfl) ?_
  refine lv_if_lt (tgt := 15) hx hb dX5_layer_7 (by decide) (fun c_1 => ?_) (fun c_1 => ?_)
  ·
    exact z_throwW Z hW Mz9 hA hE hl9.1 hfl zThr_A hX9 (is := 271) (text := "an act is FOLD, TWIST or CUT") (by decide +kernel) dX5_layer_15 dX5_layer_18 dX5_layer_19 dX5_layer_22 dX5_layer_25 (Nat.le_of_ble_eq_true rfl) (Nat.le_of_ble_eq_true rfl) ⟨Nat.le_of_ble_eq_true rfl, Nat.le_of_ble_eq_true rfl⟩ ⟨Nat.le_of_ble_eq_true rfl, Nat.le_of_ble_eq_true rfl⟩ rfl
  ·
    refine lv_iload_n hx hb dX5_layer_10 rfl (lv_at hl9 3 rfl) ?_
    refine lv_iconst (v := 2) hx hb dX5_layer_11 (by decide) ?_
    refine lv_icmp_le (tgt := 26) hx hb dX5_layer_12 (by decide) (fun c_2 => ?_) (fun c_2 => ?_)
    ·
      exact False.elim (by rcases hv9 with h | h <;> first | exact absurd h c_1 | exact absurd c_1 h | exact absurd h (Int32.not_lt.mpr c_1) | exact absurd (Int32.not_le.mp c_1) (Int32.not_lt.mpr h) | exact absurd c_1 (Int32.not_lt.mpr h) | exact absurd h c_2 | exact absurd c_2 h | exact absurd h (Int32.not_lt.mpr c_2) | exact absurd (Int32.not_le.mp c_2) (Int32.not_lt.mpr h) | exact absurd c_2 (Int32.not_lt.mpr h))
    ·
      exact z_throwW Z hW Mz9 hA hE hl9.1 hfl zThr_A hX9 (is := 271) (text := "an act is FOLD, TWIST or CUT") (by decide +kernel) dX5_layer_15 dX5_layer_18 dX5_layer_19 dX5_layer_22 dX5_layer_25 (Nat.le_of_ble_eq_true rfl) (Nat.le_of_ble_eq_true rfl) ⟨Nat.le_of_ble_eq_true rfl, Nat.le_of_ble_eq_true rfl⟩ ⟨Nat.le_of_ble_eq_true rfl, Nat.le_of_ble_eq_true rfl⟩ rfl
set_option maxHeartbeats 4000000 in
set_option maxRecDepth 100000 in
theorem ch_layer_c (l : Launch) (hfl : l.stackTraces = false) (D : va_G) (T : Nat → ClassId) (ea mi : Nat) (sa : Nat → Nat) (o : Nat) (ad : Nat → Nat) (lo : Int32) (kb : Int32) (rb n g : Nat) (fb : Nat → Option Nat) (h a q u : Nat) (β : Nat → Int32) (i : Nat) (hi : i < g) (hg : g ≤ n) (hn : n ≤ 40000) (hf : fb i = some h) (act : Nat) (ha : act < 3) (h8 : ¬ 900 ≤ β 8) : ZB l yX5_layer wsX5_layer (zrmc 6 85 1 6) (zW ea mi sa) D T [(o, .inr (6, hsF ad lo)), (ad 7, .inr (0, [.int (kb), .ref rb, .int (nI (g))])), (rb, .inl (T 3, n, qa fb)), (h, .inr (1, biF a q u β))] [.ref o, .int (nI (i)), .int (nI (act))] "java/lang/IllegalStateException" := by
  refine z_inB (cc := cX5_layer) (maxL := 4) (ret := (some .int)) (by decide +kernel) rfl (Nat.le_of_ble_eq_true rfl) ?_
  intro p e s m args below meth c sl9 A hA Z hW Mz9 hl9 hE
  have Z : zC p s m args c cX5_layer 4 RX5 wsX5_layer D T A := Z
  have hx := Z.1.1
  have hb := Z.1.2.1
  have hts := Z.1.2.2.2.2
  have hin5 : ∀ w ∈ wsX50, w ∈ wsX5_layer := by decide +kernel
  have hinL : ∀ w ∈ wsJx4a65c0, w ∈ wsX5_layer := by decide +kernel
  have hin0 : ∀ w ∈ wsX00, w ∈ wsX5_layer := by decide +kernel
  have hX9 : ∀ w ∈ Cond.classLink RX5 76 "java/lang/IllegalStateException" :: Cond.initialized "java/lang/IllegalStateException" :: (vx_atS RX5 80 "java/lang/IllegalStateException" zNm).filter goodWord, w ∈ wsX5_layer := by decide +kernel
  have L110 := hts (.fieldLink RX5 110 "AnvilHouse$Billet" "core" "I") (by decide +kernel)
  have L129 := hts (.fieldLink RX5 129 "AnvilHouse$Billet" "layers" "I") (by decide +kernel)
  have hl9 : lv_has sl9 4 [(0, .ref o), (1, .int (nI (i))), (2, .int (nI (act)))] := hl9
  refine lv_aload_n hx hb dX5_layer_0 rfl (lv_at hl9 0 rfl) ?_
  refine lv_iload_n hx hb dX5_layer_1 rfl (lv_at hl9 1 rfl) ?_
  refine z_callVr (As := [.int (nI (i))]) (rest := []) (wc := [(o, .inr (6, hsF ad lo)), (ad 7, .inr (0, [.int (kb), .ref rb, .int (nI (g))])), (rb, .inl (T 3, n, qa fb)), (h, .inr (1, biF a q u β))]) Z Mz9 (ch_billetAt l D T o ad lo kb rb n g fb h (biF a q u β) i hi hg hn hf) (cwV 1 hts gX5_layer_X5_billetAt rfl rfl rfl (by decide +kernel) ⟨Nat.le_of_ble_eq_true rfl, Nat.le_of_ble_eq_true rfl⟩) [0, 1, 2, 3] rfl (by decide) (fun _ j hj => rfl) (fun _ => Nat.le_refl _) (va_recv Z.2.1 Mz9.1 (ci := 6) (q0 := 0) rfl rfl) rfl hl9.1 (Nat.le_of_ble_eq_true rfl) dX5_layer_2 ⟨Nat.le_of_ble_eq_true rfl, Nat.le_of_ble_eq_true rfl⟩ rfl (fun _ Hp9 lc9 Mz9 => ?_)
  have Mz9 : zM D A s.heap [(o, .inr (6, hsF ad lo)), (ad 7, .inr (0, [.int (kb), .ref rb, .int (nI (g))])), (rb, .inl (T 3, n, qa fb)), (h, .inr (1, biF a q u β))] _ _ := Mz9
  refine lv_astore_n (lv' := [(3, .ref h), (0, .ref o), (1, .int (nI (i))), (2, .int (nI (act)))]) hx hb dX5_layer_5 rfl hl9 (by decide) rfl (fun sl9 hl9 => ?_)
  refine lv_iload_n hx hb dX5_layer_6 rfl (lv_at hl9 3 rfl) ?_
  refine zn_if_lt (a := act) (tgt := 15) (by omega) hx hb dX5_layer_7 (by decide) (fun h => absurd h (fun h => h)) (fun _ => ?_)
  refine lv_iload_n hx hb dX5_layer_10 rfl (lv_at hl9 3 rfl) ?_
  refine lv_iconst (v := 2) hx hb dX5_layer_11 (by decide) ?_
  refine zn_icmp_le (a := act) (b := 2) (tgt := 26) (by omega) (by decide) hx hb dX5_layer_12 (by decide) (fun _ => ?_) (fun h => absurd h (by omega))
  refine lv_aload_n hx hb dX5_layer_26 rfl (lv_at hl9 0 rfl) ?_
  refine z_getf Z Mz9 hin0 3 rfl rfl 8 (by decide) L110 rfl (v := .int (β 8)) rfl dX5_layer_27 ?_
  refine lv_sipush (v := 900) hx hb dX5_layer_30 (by decide) ?_
  refine lv_icmp_ge (tgt := 47) hx hb dX5_layer_33 (by decide) (fun h => absurd h (h8)) (fun _ => ?_)
  exact z_throwW Z hW Mz9 hA hE hl9.1 hfl zThr_S hX9 (is := 273) (text := "the core is below 900") (by decide +kernel) dX5_layer_36 dX5_layer_39 dX5_layer_40 dX5_layer_43 dX5_layer_46 (Nat.le_of_ble_eq_true rfl) (Nat.le_of_ble_eq_true rfl) ⟨Nat.le_of_ble_eq_true rfl, Nat.le_of_ble_eq_true rfl⟩ ⟨Nat.le_of_ble_eq_true rfl, Nat.le_of_ble_eq_true rfl⟩ rfl
