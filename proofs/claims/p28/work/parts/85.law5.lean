/-! ===== the law's own methods: isNearer ===== -/
theorem Dq_pop {q : Nat} (hq : q < 256) : ∀ n y, Dq q n y → pop y = pop q
  | 0, y, h => by
    have h : y = q := h
    rw [h]
  | n + 1, y, ⟨x, a, hx, ha, h, e⟩ => by
    rw [e, (act_pop x hx a ha).2]
    exact Dq_pop hq n x h
theorem pop_le (p : Nat) : pop p ≤ 8 := by
  unfold pop
  omega
theorem GR_5 {N : Nat → Nat} {ga : Nat → Int32} (h : GRc N ga) (x : Int32) : GRc N (upd ga 5 x) := by
  obtain ⟨h0, h1, h2, h3, h4⟩ := h
  exact ⟨(upd_ne _ _ (by decide)).trans h0, (upd_ne _ _ (by decide)).trans h1, (upd_ne _ _ (by decide)).trans h2, (upd_ne _ _ (by decide)).trans h3, (upd_ne _ _ (by decide)).trans h4⟩
section LAW5
variable {l : Launch} {D : va_G} {T : Nat → ClassId} {ea mi : Nat} {sa : Nat → Nat}
variable {C : Nat} {ad : Nat → Nat} {J : List Nat} {N mst bst : Nat → Nat} {ρ : Nat → Nat → Int32} {ga ma aa ca ta : Nat → Int32} {av : Nat → Nat} {i : Nat}
set_option maxHeartbeats 4000000 in
set_option maxRecDepth 100000 in
theorem lm_isNearer (hfl : l.stackTraces = false) (hI : Inv C J N mst bst ρ aa ca) (hGr : GRc N ga) (hi : i < N 1) {n9 : Nat} (hn9 : n9 < 256) : ZIH l yL_isNearer wsL_isNearer mR9 (zX ea mi sa) D T (S := {Y : YS // PIc (C + 1) (ad 0) Y}) (lwR T av ga ma aa ca ta ++ iw J ad (hG ad T ea nof N mst bst ρ)) (fun Y => yW T ea av Y.1) [.ref (ad 0), .ref (av 0), .int (nI (i)), .int (nI (n9))] 1 320 4480 := by
  obtain ⟨-, -, -, ⟨co, o1, o2, o3⟩, -, -, -, -, ⟨p9, t1, t2, t3⟩, -⟩ := I_B hI hi
  have hi12 : i < 12 := (I_liB hI hi).1
  have hpl := pop_le n9
  refine z_inIHC (cc := cL_isNearer) (maxL := 8) (rt := .boolean) (by decide +kernel) rfl (Nat.le_of_ble_eq_true rfl) ?_
  intro p e s m args below meth c sl9 A Q Z hX Mz9 hl9 hret
  have Z : zC p s m args c cL_isNearer 8 RL wsL_isNearer D T A := Z
  have hx := Z.1.1
  have hb := Z.1.2.1
  have hts := Z.1.2.2.2.2
  have hl9 : lv_has sl9 8 [(0, .ref (ad 0)), (1, .ref (av 0)), (2, .int (nI (i))), (3, .int (nI (n9)))] := hl9
  refine lv_aload_n hx hb dL_isNearer_0 rfl (lv_at hl9 1 rfl) ?_
  refine lv_iconst (v := 5) hx hb dL_isNearer_1 (by decide) ?_
  refine lv_dup2_11 hx hb dL_isNearer_2 rfl rfl ?_
  refine z_iald Z Mz9 0 (h0 := av 0) (n := 6) (f := ga) rfl (j := 5) (by decide) (by decide) dL_isNearer_3 ?_
  refine lv_iconst (v := 1) hx hb dL_isNearer_4 (by decide) ?_
  refine lv_iadd hx hb dL_isNearer_5 ?_
  refine z_iast Z Mz9 0 (h0 := av 0) (n := 6) (f := ga) rfl (j := 5) (x := (ga 5) + 1) (by decide) (by decide) (ws' := lwR T av (upd ga 5 ((ga 5) + 1)) ma aa ca ta ++ iw J ad (hG ad T ea nof N mst bst ρ)) rfl dL_isNearer_6 (fun Hp9 lc9 Mz9 => ?_)
  refine lv_aload_n hx hb dL_isNearer_7 rfl (lv_at hl9 1 rfl) ?_
  refine lv_iconst (v := 5) hx hb dL_isNearer_8 (by decide) ?_
  refine z_iald Z Mz9 0 (h0 := av 0) (n := 6) (f := upd ga 5 ((ga 5) + 1)) rfl (j := 5) (by decide) (by decide) dL_isNearer_9 ?_
  refine lv_bipush (v := 20) hx hb dL_isNearer_10 (by decide) ?_
  refine lv_icmp_le (tgt := 17) hx hb dL_isNearer_12 (by decide) (fun c_1 => ?_) (fun c_1 => ?_)
  ·
    refine lv_aload_n hx hb dL_isNearer_17 rfl (lv_at hl9 0 rfl) ?_
    refine lv_iload_n hx hb dL_isNearer_18 rfl (lv_at hl9 2 rfl) ?_
    refine lv_iload_n hx hb dL_isNearer_19 rfl (lv_at hl9 3 rfl) ?_
    obtain ⟨f0, f1, f2, hw1, hI1⟩ := hc_fewest (l := l) (D := D) (T := T) (ea := ea) (mi := mi) (sa := sa) hI hi t1 hn9 t3
    rw [BF_ind _ _ t1 hn9] at hw1
    obtain ⟨ρ1, hρ1⟩ : ∃ q, q = upP ρ f0 f1 f2 := ⟨_, rfl⟩
    rw [← hρ1] at hw1 hI1
    have e1 : ρ1 (100 + 3 * i) = ρ (100 + 3 * i) := by rw [hρ1]; exact upP_o (by omega)
    rcases FP_all p9 n9 t1 hn9 with ⟨d1, d2⟩ | ⟨d, dd, d1, d2, d3⟩
    ·
      rw [d1] at hw1
      have hop := (OPn_all (ρ1 11) (ρ1 12) (ρ1 13) p9 n9 t1 hn9).1 (Or.inr d1)
      have hne : ¬ p9 = n9 := fun q => d2 0 q.symm
      refine z_callW (As := [.ref (ad 0), .int (nI (i)), .int (nI (n9))]) (rest := []) (zX_k ea mi sa) hX Z Mz9 (hw1 _) (vx_cwSW 3 hts gL_isNearer_L_fewest rfl rfl rfl (by decide +kernel) ⟨by decide, by decide⟩) rfl hl9.1 (Nat.le_of_ble_eq_true rfl) dL_isNearer_20 ⟨by show _ ≤ 320; omega, by show _ ≤ 4480; omega⟩ rfl (fun u9 Hp9 lc9 Mz9 => ?_)
      refine lv_istore (lv' := [(4, .int (-1)), (0, .ref (ad 0)), (1, .ref (av 0)), (2, .int (nI (i))), (3, .int (nI (n9)))]) hx hb dL_isNearer_23 hl9 (by decide) rfl (fun sl9 hl9 => ?_)
      refine lv_aload_n hx hb dL_isNearer_25 rfl (lv_at hl9 1 rfl) ?_
      refine lv_iload_n hx hb dL_isNearer_26 rfl (lv_at hl9 3 rfl) ?_
      refine lv_iload_n hx hb dL_isNearer_27 rfl (lv_at hl9 4 rfl) ?_
      obtain ⟨g0, g1, g2, hw2, hI2⟩ := hc_first (l := l) (D := D) (T := T) (ea := ea) (mi := mi) (sa := sa) hI1 hi t1 hn9 (by rw [e1]; exact t3)
      rw [hop] at hw2
      obtain ⟨ρ2, hρ2⟩ : ∃ q, q = upP ρ1 g0 g1 g2 := ⟨_, rfl⟩
      rw [← hρ2] at hw2 hI2
      have e2 : ρ2 (100 + 3 * i) = ρ (100 + 3 * i) := by rw [hρ2]; exact (upP_o (by omega)).trans e1
      refine z_callW (As := [.ref (ad 0), .int (nI (i)), .int (nI (n9))]) (rest := []) (zX_k ea mi sa) hX Z Mz9 (hw2 _) (vx_cwSW 3 hts gL_isNearer_L_first rfl rfl rfl (by decide +kernel) ⟨by decide, by decide⟩) rfl hl9.1 (Nat.le_of_ble_eq_true rfl) dL_isNearer_28 ⟨by show _ ≤ 320; omega, by show _ ≤ 4480; omega⟩ rfl (fun u9 Hp9 lc9 Mz9 => ?_)
      refine lv_istore (lv' := [(5, .int (-1)), (4, .int (-1)), (0, .ref (ad 0)), (1, .ref (av 0)), (2, .int (nI (i))), (3, .int (nI (n9)))]) hx hb dL_isNearer_31 hl9 (by decide) rfl (fun sl9 hl9 => ?_)
      refine lv_aload_n hx hb dL_isNearer_33 rfl (lv_at hl9 2 rfl) ?_
      refine lv_iload_n hx hb dL_isNearer_34 rfl (lv_at hl9 4 rfl) ?_
      refine lv_bipush (v := 7) hx hb dL_isNearer_35 (by decide) ?_
      refine z_callW (As := [.ref (ad 0), .int (nI (i)), .int 7]) (rest := []) (zX_k ea mi sa) hX Z Mz9 (hc_bIs7 hI2 hi _) (vx_cwSW 3 hts gL_isNearer_L_billetIs rfl rfl rfl (by decide +kernel) ⟨by decide, by decide⟩) rfl hl9.1 (Nat.le_of_ble_eq_true rfl) dL_isNearer_37 ⟨by show _ ≤ 320; omega, by show _ ≤ 4480; omega⟩ rfl (fun u9 Hp9 lc9 Mz9 => ?_)
      refine zn_top (y := nI (p9)) (by rw [e2]; exact t3) ?_
      refine lv_istore (lv' := [(6, .int (nI (p9))), (5, .int (-1)), (4, .int (-1)), (0, .ref (ad 0)), (1, .ref (av 0)), (2, .int (nI (i))), (3, .int (nI (n9)))]) hx hb dL_isNearer_40 hl9 (by decide) rfl (fun sl9 hl9 => ?_)
      refine lv_iload hx hb dL_isNearer_42 (lv_at hl9 2 rfl) ?_
      refine lv_iconst (v := 1) hx hb dL_isNearer_44 (by decide) ?_
      refine lv_icmp_lt (tgt := 60) hx hb dL_isNearer_45 (by decide) (fun _ => ?_) (fun h => absurd h (by decide))
      refine lv_iload hx hb dL_isNearer_60 (lv_at hl9 1 rfl) ?_
      refine lv_iconst (v := (-1)) hx hb dL_isNearer_62 (by decide) ?_
      refine lv_icmp_ne (tgt := 70) hx hb dL_isNearer_63 (by decide) (fun h => absurd h (by decide)) (fun _ => ?_)
      refine lv_iconst (v := 1) hx hb dL_isNearer_66 (by decide) ?_
      refine lv_goto (tgt := 71) hx hb dL_isNearer_67 (by decide) ?_
      refine lv_iload hx hb dL_isNearer_71 (lv_at hl9 2 rfl) ?_
      refine lv_iconst (v := 1) hx hb dL_isNearer_73 (by decide) ?_
      refine lv_icmp_ge (tgt := 81) hx hb dL_isNearer_74 (by decide) (fun h => absurd h (by decide)) (fun _ => ?_)
      refine lv_iconst (v := 1) hx hb dL_isNearer_77 (by decide) ?_
      refine lv_goto (tgt := 82) hx hb dL_isNearer_78 (by decide) ?_
      refine lv_icmp_ne (tgt := 127) hx hb dL_isNearer_82 (by decide) (fun h => absurd h (by decide)) (fun _ => ?_)
      refine lv_iload hx hb dL_isNearer_85 (lv_at hl9 2 rfl) ?_
      refine lv_if_ne (tgt := 94) hx hb dL_isNearer_87 (by decide) (fun _ => ?_) (fun h => absurd h (by decide))
      refine lv_iconst (v := 0) hx hb dL_isNearer_94 (by decide) ?_
      refine lv_iload hx hb dL_isNearer_95 (lv_at hl9 0 rfl) ?_
      refine lv_iload_n hx hb dL_isNearer_97 rfl (lv_at hl9 6 rfl) ?_
      refine zn_icmp_ne (a := p9) (b := n9) (tgt := 105) (by omega) (by omega) hx hb dL_isNearer_98 (by decide) (fun _ => ?_) (fun h => absurd h (hne))
      refine lv_iconst (v := 0) hx hb dL_isNearer_105 (by decide) ?_
      refine lv_icmp_ne (tgt := 127) hx hb dL_isNearer_106 (by decide) (fun h => absurd h (by decide)) (fun _ => ?_)
      refine lv_iload_n hx hb dL_isNearer_109 rfl (lv_at hl9 6 rfl) ?_
      refine z_callSi (As := [.int (nI (n9))]) (rest := []) Z.1 (ln_ones l hn9) (va_cwS 1 hts gL_isNearer_L_ones rfl rfl rfl (by decide +kernel) ⟨by decide, by decide⟩) rfl hl9.1 (Nat.le_of_ble_eq_true rfl) dL_isNearer_110 ⟨by show _ ≤ 320; omega, by show _ ≤ 4480; omega⟩ rfl ?_
      refine lv_iconst (v := 4) hx hb dL_isNearer_113 (by decide) ?_
      refine zn_icmp_eq (a := pop n9) (b := 4) (tgt := 123) (by omega) (by decide) hx hb dL_isNearer_114 (by decide) (fun c_2 => ?_) (fun c_2 => ?_)
      ·
        refine lv_iconst (v := 1) hx hb dL_isNearer_123 (by decide) ?_
        refine lv_goto (tgt := 128) hx hb dL_isNearer_124 (by decide) ?_
        exact hret _ _ _ _ _ sl9 _ _ (⟨((J, ad, N, mst, bst, ρ2), upd ga 5 ((ga 5) + 1), ma, aa, ca, ta), ⟨(I_le (Nat.le_succ C) hI2), (GR_5 hGr _), rfl⟩⟩) Mz9 rfl (rfl) rfl (by show _ ≤ 320; omega) (by show _ ≤ 4480; omega) dL_isNearer_128
      ·
        refine lv_iload hx hb dL_isNearer_117 (lv_at hl9 2 rfl) ?_
        refine lv_iconst (v := (-1)) hx hb dL_isNearer_119 (by decide) ?_
        refine lv_icmp_ne (tgt := 127) hx hb dL_isNearer_120 (by decide) (fun h => absurd h (by decide)) (fun _ => ?_)
        refine lv_iconst (v := 1) hx hb dL_isNearer_123 (by decide) ?_
        refine lv_goto (tgt := 128) hx hb dL_isNearer_124 (by decide) ?_
        exact hret _ _ _ _ _ sl9 _ _ (⟨((J, ad, N, mst, bst, ρ2), upd ga 5 ((ga 5) + 1), ma, aa, ca, ta), ⟨(I_le (Nat.le_succ C) hI2), (GR_5 hGr _), rfl⟩⟩) Mz9 rfl (rfl) rfl (by show _ ≤ 320; omega) (by show _ ≤ 4480; omega) dL_isNearer_128
    · cases d with
      | zero =>
        rw [d1] at hw1
        have d2 : n9 = p9 := d2
        have hop := (OPn_all (ρ1 11) (ρ1 12) (ρ1 13) p9 n9 t1 hn9).1 (Or.inl d2)
        refine z_callW (As := [.ref (ad 0), .int (nI (i)), .int (nI (n9))]) (rest := []) (zX_k ea mi sa) hX Z Mz9 (hw1 _) (vx_cwSW 3 hts gL_isNearer_L_fewest rfl rfl rfl (by decide +kernel) ⟨by decide, by decide⟩) rfl hl9.1 (Nat.le_of_ble_eq_true rfl) dL_isNearer_20 ⟨by show _ ≤ 320; omega, by show _ ≤ 4480; omega⟩ rfl (fun u9 Hp9 lc9 Mz9 => ?_)
        refine lv_istore (lv' := [(4, .int 0), (0, .ref (ad 0)), (1, .ref (av 0)), (2, .int (nI (i))), (3, .int (nI (n9)))]) hx hb dL_isNearer_23 hl9 (by decide) rfl (fun sl9 hl9 => ?_)
        refine lv_aload_n hx hb dL_isNearer_25 rfl (lv_at hl9 1 rfl) ?_
        refine lv_iload_n hx hb dL_isNearer_26 rfl (lv_at hl9 3 rfl) ?_
        refine lv_iload_n hx hb dL_isNearer_27 rfl (lv_at hl9 4 rfl) ?_
        obtain ⟨g0, g1, g2, hw2, hI2⟩ := hc_first (l := l) (D := D) (T := T) (ea := ea) (mi := mi) (sa := sa) hI1 hi t1 hn9 (by rw [e1]; exact t3)
        rw [hop] at hw2
        obtain ⟨ρ2, hρ2⟩ : ∃ q, q = upP ρ1 g0 g1 g2 := ⟨_, rfl⟩
        rw [← hρ2] at hw2 hI2
        have e2 : ρ2 (100 + 3 * i) = ρ (100 + 3 * i) := by rw [hρ2]; exact (upP_o (by omega)).trans e1
        refine z_callW (As := [.ref (ad 0), .int (nI (i)), .int (nI (n9))]) (rest := []) (zX_k ea mi sa) hX Z Mz9 (hw2 _) (vx_cwSW 3 hts gL_isNearer_L_first rfl rfl rfl (by decide +kernel) ⟨by decide, by decide⟩) rfl hl9.1 (Nat.le_of_ble_eq_true rfl) dL_isNearer_28 ⟨by show _ ≤ 320; omega, by show _ ≤ 4480; omega⟩ rfl (fun u9 Hp9 lc9 Mz9 => ?_)
        refine lv_istore (lv' := [(5, .int (-1)), (4, .int 0), (0, .ref (ad 0)), (1, .ref (av 0)), (2, .int (nI (i))), (3, .int (nI (n9)))]) hx hb dL_isNearer_31 hl9 (by decide) rfl (fun sl9 hl9 => ?_)
        refine lv_aload_n hx hb dL_isNearer_33 rfl (lv_at hl9 2 rfl) ?_
        refine lv_iload_n hx hb dL_isNearer_34 rfl (lv_at hl9 4 rfl) ?_
        refine lv_bipush (v := 7) hx hb dL_isNearer_35 (by decide) ?_
        refine z_callW (As := [.ref (ad 0), .int (nI (i)), .int 7]) (rest := []) (zX_k ea mi sa) hX Z Mz9 (hc_bIs7 hI2 hi _) (vx_cwSW 3 hts gL_isNearer_L_billetIs rfl rfl rfl (by decide +kernel) ⟨by decide, by decide⟩) rfl hl9.1 (Nat.le_of_ble_eq_true rfl) dL_isNearer_37 ⟨by show _ ≤ 320; omega, by show _ ≤ 4480; omega⟩ rfl (fun u9 Hp9 lc9 Mz9 => ?_)
        refine zn_top (y := nI (p9)) (by rw [e2]; exact t3) ?_
        refine lv_istore (lv' := [(6, .int (nI (p9))), (5, .int (-1)), (4, .int 0), (0, .ref (ad 0)), (1, .ref (av 0)), (2, .int (nI (i))), (3, .int (nI (n9)))]) hx hb dL_isNearer_40 hl9 (by decide) rfl (fun sl9 hl9 => ?_)
        refine lv_iload hx hb dL_isNearer_42 (lv_at hl9 2 rfl) ?_
        refine lv_iconst (v := 1) hx hb dL_isNearer_44 (by decide) ?_
        refine lv_icmp_lt (tgt := 60) hx hb dL_isNearer_45 (by decide) (fun _ => ?_) (fun h => absurd h (by decide))
        refine lv_iload hx hb dL_isNearer_60 (lv_at hl9 1 rfl) ?_
        refine lv_iconst (v := (-1)) hx hb dL_isNearer_62 (by decide) ?_
        refine lv_icmp_ne (tgt := 70) hx hb dL_isNearer_63 (by decide) (fun h => absurd h (by decide)) (fun _ => ?_)
        refine lv_iconst (v := 1) hx hb dL_isNearer_66 (by decide) ?_
        refine lv_goto (tgt := 71) hx hb dL_isNearer_67 (by decide) ?_
        refine lv_iload hx hb dL_isNearer_71 (lv_at hl9 2 rfl) ?_
        refine lv_iconst (v := 1) hx hb dL_isNearer_73 (by decide) ?_
        refine lv_icmp_ge (tgt := 81) hx hb dL_isNearer_74 (by decide) (fun h => absurd h (by decide)) (fun _ => ?_)
        refine lv_iconst (v := 1) hx hb dL_isNearer_77 (by decide) ?_
        refine lv_goto (tgt := 82) hx hb dL_isNearer_78 (by decide) ?_
        refine lv_icmp_ne (tgt := 127) hx hb dL_isNearer_82 (by decide) (fun h => absurd h (by decide)) (fun _ => ?_)
        refine lv_iload hx hb dL_isNearer_85 (lv_at hl9 2 rfl) ?_
        refine lv_if_ne (tgt := 94) hx hb dL_isNearer_87 (by decide) (fun h => absurd h (by decide)) (fun _ => ?_)
        refine lv_iconst (v := 1) hx hb dL_isNearer_90 (by decide) ?_
        refine lv_goto (tgt := 95) hx hb dL_isNearer_91 (by decide) ?_
        refine lv_iload hx hb dL_isNearer_95 (lv_at hl9 0 rfl) ?_
        refine lv_iload_n hx hb dL_isNearer_97 rfl (lv_at hl9 6 rfl) ?_
        refine zn_icmp_ne (a := p9) (b := n9) (tgt := 105) (by omega) (by omega) hx hb dL_isNearer_98 (by decide) (fun h => absurd h (fun q => q d2.symm)) (fun _ => ?_)
        refine lv_iconst (v := 1) hx hb dL_isNearer_101 (by decide) ?_
        refine lv_goto (tgt := 106) hx hb dL_isNearer_102 (by decide) ?_
        refine lv_icmp_ne (tgt := 127) hx hb dL_isNearer_106 (by decide) (fun h => absurd h (by decide)) (fun _ => ?_)
        refine lv_iload_n hx hb dL_isNearer_109 rfl (lv_at hl9 6 rfl) ?_
        refine z_callSi (As := [.int (nI (n9))]) (rest := []) Z.1 (ln_ones l hn9) (va_cwS 1 hts gL_isNearer_L_ones rfl rfl rfl (by decide +kernel) ⟨by decide, by decide⟩) rfl hl9.1 (Nat.le_of_ble_eq_true rfl) dL_isNearer_110 ⟨by show _ ≤ 320; omega, by show _ ≤ 4480; omega⟩ rfl ?_
        refine lv_iconst (v := 4) hx hb dL_isNearer_113 (by decide) ?_
        refine zn_icmp_eq (a := pop n9) (b := 4) (tgt := 123) (by omega) (by decide) hx hb dL_isNearer_114 (by decide) (fun _ => ?_) (fun h => absurd h (fun q => q (by rw [d2]; exact t2)))
        refine lv_iconst (v := 1) hx hb dL_isNearer_123 (by decide) ?_
        refine lv_goto (tgt := 128) hx hb dL_isNearer_124 (by decide) ?_
        exact hret _ _ _ _ _ sl9 _ _ (⟨((J, ad, N, mst, bst, ρ2), upd ga 5 ((ga 5) + 1), ma, aa, ca, ta), ⟨(I_le (Nat.le_succ C) hI2), (GR_5 hGr _), rfl⟩⟩) Mz9 rfl (rfl) rfl (by show _ ≤ 320; omega) (by show _ ≤ 4480; omega) dL_isNearer_128
      | succ d9 =>
        rw [d1] at hw1
        have hne : ¬ p9 = n9 := fun q => d3 0 (Nat.succ_pos _) q.symm
        have hpop : pop n9 = 4 := (Dq_pop t1 _ _ d2).trans t2
        obtain ⟨a9, a91, hop, a92, -⟩ := (OPn_all (ρ1 11) (ρ1 12) (ρ1 13) p9 n9 t1 hn9).2 d9 (fun q => hne q.symm) d1 (by omega)
        refine z_callW (As := [.ref (ad 0), .int (nI (i)), .int (nI (n9))]) (rest := []) (zX_k ea mi sa) hX Z Mz9 (hw1 _) (vx_cwSW 3 hts gL_isNearer_L_fewest rfl rfl rfl (by decide +kernel) ⟨by decide, by decide⟩) rfl hl9.1 (Nat.le_of_ble_eq_true rfl) dL_isNearer_20 ⟨by show _ ≤ 320; omega, by show _ ≤ 4480; omega⟩ rfl (fun u9 Hp9 lc9 Mz9 => ?_)
        refine lv_istore (lv' := [(4, .int (nI (d9 + 1))), (0, .ref (ad 0)), (1, .ref (av 0)), (2, .int (nI (i))), (3, .int (nI (n9)))]) hx hb dL_isNearer_23 hl9 (by decide) rfl (fun sl9 hl9 => ?_)
        refine lv_aload_n hx hb dL_isNearer_25 rfl (lv_at hl9 1 rfl) ?_
        refine lv_iload_n hx hb dL_isNearer_26 rfl (lv_at hl9 3 rfl) ?_
        refine lv_iload_n hx hb dL_isNearer_27 rfl (lv_at hl9 4 rfl) ?_
        obtain ⟨g0, g1, g2, hw2, hI2⟩ := hc_first (l := l) (D := D) (T := T) (ea := ea) (mi := mi) (sa := sa) hI1 hi t1 hn9 (by rw [e1]; exact t3)
        rw [hop] at hw2
        obtain ⟨ρ2, hρ2⟩ : ∃ q, q = upP ρ1 g0 g1 g2 := ⟨_, rfl⟩
        rw [← hρ2] at hw2 hI2
        have e2 : ρ2 (100 + 3 * i) = ρ (100 + 3 * i) := by rw [hρ2]; exact (upP_o (by omega)).trans e1
        refine z_callW (As := [.ref (ad 0), .int (nI (i)), .int (nI (n9))]) (rest := []) (zX_k ea mi sa) hX Z Mz9 (hw2 _) (vx_cwSW 3 hts gL_isNearer_L_first rfl rfl rfl (by decide +kernel) ⟨by decide, by decide⟩) rfl hl9.1 (Nat.le_of_ble_eq_true rfl) dL_isNearer_28 ⟨by show _ ≤ 320; omega, by show _ ≤ 4480; omega⟩ rfl (fun u9 Hp9 lc9 Mz9 => ?_)
        refine lv_istore (lv' := [(5, .int (nI (a9))), (4, .int (nI (d9 + 1))), (0, .ref (ad 0)), (1, .ref (av 0)), (2, .int (nI (i))), (3, .int (nI (n9)))]) hx hb dL_isNearer_31 hl9 (by decide) rfl (fun sl9 hl9 => ?_)
        refine lv_aload_n hx hb dL_isNearer_33 rfl (lv_at hl9 2 rfl) ?_
        refine lv_iload_n hx hb dL_isNearer_34 rfl (lv_at hl9 4 rfl) ?_
        refine lv_bipush (v := 7) hx hb dL_isNearer_35 (by decide) ?_
        refine z_callW (As := [.ref (ad 0), .int (nI (i)), .int 7]) (rest := []) (zX_k ea mi sa) hX Z Mz9 (hc_bIs7 hI2 hi _) (vx_cwSW 3 hts gL_isNearer_L_billetIs rfl rfl rfl (by decide +kernel) ⟨by decide, by decide⟩) rfl hl9.1 (Nat.le_of_ble_eq_true rfl) dL_isNearer_37 ⟨by show _ ≤ 320; omega, by show _ ≤ 4480; omega⟩ rfl (fun u9 Hp9 lc9 Mz9 => ?_)
        refine zn_top (y := nI (p9)) (by rw [e2]; exact t3) ?_
        refine lv_istore (lv' := [(6, .int (nI (p9))), (5, .int (nI (a9))), (4, .int (nI (d9 + 1))), (0, .ref (ad 0)), (1, .ref (av 0)), (2, .int (nI (i))), (3, .int (nI (n9)))]) hx hb dL_isNearer_40 hl9 (by decide) rfl (fun sl9 hl9 => ?_)
        refine lv_iload hx hb dL_isNearer_42 (lv_at hl9 2 rfl) ?_
        refine lv_iconst (v := 1) hx hb dL_isNearer_44 (by decide) ?_
        refine zn_icmp_lt (a := d9 + 1) (b := 1) (tgt := 60) (by omega) (by decide) hx hb dL_isNearer_45 (by decide) (fun h => absurd h (by omega)) (fun _ => ?_)
        refine lv_aload_n hx hb dL_isNearer_48 rfl (lv_at hl9 3 rfl) ?_
        refine lv_iload_n hx hb dL_isNearer_49 rfl (lv_at hl9 5 rfl) ?_
        refine lv_iconst (v := 1) hx hb dL_isNearer_50 (by decide) ?_
        refine z_callW (As := [.ref (ad 0), .int (nI (i)), .int 1]) (rest := []) (zX_k ea mi sa) hX Z Mz9 (hc_bIs1 hI2 hi _) (vx_cwSW 3 hts gL_isNearer_L_billetIs rfl rfl rfl (by decide +kernel) ⟨by decide, by decide⟩) rfl hl9.1 (Nat.le_of_ble_eq_true rfl) dL_isNearer_51 ⟨by show _ ≤ 320; omega, by show _ ≤ 4480; omega⟩ rfl (fun u9 Hp9 lc9 Mz9 => ?_)
        refine zn_top (y := nI (co)) (by rw [e2]; exact o3) ?_
        refine lv_sipush (v := 900) hx hb dL_isNearer_54 (by decide) ?_
        refine zn_icmp_ge (a := co) (b := 900) (tgt := 129) (by omega) (by decide) hx hb dL_isNearer_57 (by decide) (fun c_3 => ?_) (fun c_3 => ?_)
        ·
          refine lv_iload hx hb dL_isNearer_129 (lv_at hl9 1 rfl) ?_
          refine zn_if_lt (a := a9) (tgt := 156) (by omega) hx hb dL_isNearer_131 (by decide) (fun h => absurd h (fun q => q)) (fun _ => ?_)
          refine lv_iload hx hb dL_isNearer_134 (lv_at hl9 1 rfl) ?_
          refine lv_iconst (v := 3) hx hb dL_isNearer_136 (by decide) ?_
          refine zn_icmp_ge (a := a9) (b := 3) (tgt := 156) (by omega) (by decide) hx hb dL_isNearer_137 (by decide) (fun h => absurd h (by omega)) (fun _ => ?_)
          refine lv_aload_n hx hb dL_isNearer_140 rfl (lv_at hl9 3 rfl) ?_
          refine lv_iload_n hx hb dL_isNearer_141 rfl (lv_at hl9 5 rfl) ?_
          refine lv_iload hx hb dL_isNearer_142 (lv_at hl9 1 rfl) ?_
          have t32 : ρ2 (100 + 3 * i) 13 = nI p9 := by rw [e2]; exact t3
          obtain ⟨hw3, hI3⟩ := hc_layer (l := l) (D := D) (T := T) (ea := ea) (mi := mi) (sa := sa) hI2 hi t1 t32 a91 (by rw [e2, o3]; exact (nI_leI (a := 900) (by decide) (by omega)).mpr (by omega))
          have hac := (act_pop p9 t1 a9 a91).1
          have hdi := (dist_act FP_all t1 hn9 (by omega) d3 a91).mpr a92
          have hnq : ¬ actN p9 a9 = p9 := fun q => by rw [q, d1] at hdi; have q2 := (nI_eq (show d9 + 1 < 2 ^ 31 by omega) (show d9 < 2 ^ 31 by omega)).mp (hdi.trans (show nI (d9 + 1) - 1 = nI d9 from pk_sub (a := d9 + 1) (b := 1) (by omega))); omega
          obtain ⟨ρ3, hρ3⟩ : ∃ q, q = upB ρ2 i (upd (ρ2 (100 + 3 * i)) 13 (nI (actN p9 a9))) (ρ2 (101 + 3 * i)) (ρ2 (102 + 3 * i)) := ⟨_, rfl⟩
          rw [← hρ3] at hw3 hI3
          have t33 : ρ3 (100 + 3 * i) 13 = nI (actN p9 a9) := by rw [hρ3, upB_b]; rfl
          refine z_callW (As := [.ref (ad 0), .int (nI (i)), .int (nI (a9))]) (rest := []) (zX_k ea mi sa) hX Z Mz9 (hw3 _) (vx_cwSW 3 hts gL_isNearer_L_layer rfl rfl rfl (by decide +kernel) ⟨by decide, by decide⟩) rfl hl9.1 (Nat.le_of_ble_eq_true rfl) dL_isNearer_144 ⟨by show _ ≤ 320; omega, by show _ ≤ 4480; omega⟩ rfl (fun u9 Hp9 lc9 Mz9 => ?_)
          refine lv_iload hx hb dL_isNearer_147 (lv_at hl9 0 rfl) ?_
          refine zn_icmp_eq (a := actN p9 a9) (b := p9) (tgt := 156) (by omega) (by omega) hx hb dL_isNearer_149 (by decide) (fun h => absurd h (hnq)) (fun _ => ?_)
          refine lv_iconst (v := 1) hx hb dL_isNearer_152 (by decide) ?_
          refine lv_goto (tgt := 157) hx hb dL_isNearer_153 (by decide) ?_
          refine lv_istore (lv' := [(7, .int 1), (6, .int (nI (p9))), (5, .int (nI (a9))), (4, .int (nI (d9 + 1))), (0, .ref (ad 0)), (1, .ref (av 0)), (2, .int (nI (i))), (3, .int (nI (n9)))]) hx hb dL_isNearer_157 hl9 (by decide) rfl (fun sl9 hl9 => ?_)
          refine lv_iload hx hb dL_isNearer_159 (lv_at hl9 0 rfl) ?_
          refine lv_if_eq (tgt := 181) hx hb dL_isNearer_161 (by decide) (fun h => absurd h (by decide)) (fun _ => ?_)
          refine lv_aload_n hx hb dL_isNearer_164 rfl (lv_at hl9 4 rfl) ?_
          refine lv_iload_n hx hb dL_isNearer_165 rfl (lv_at hl9 6 rfl) ?_
          refine lv_iload_n hx hb dL_isNearer_166 rfl (lv_at hl9 7 rfl) ?_
          obtain ⟨h0, h1, h2, hw4, hI4⟩ := hc_fewest (l := l) (D := D) (T := T) (ea := ea) (mi := mi) (sa := sa) hI3 hi hac hn9 t33
          rw [BF_ind _ _ hac hn9, hdi, show nI (d9 + 1) - 1 = nI d9 from pk_sub (a := d9 + 1) (b := 1) (by omega)] at hw4
          obtain ⟨ρ4, hρ4⟩ : ∃ q, q = upP ρ3 h0 h1 h2 := ⟨_, rfl⟩
          rw [← hρ4] at hw4 hI4
          refine z_callW (As := [.ref (ad 0), .int (nI (i)), .int (nI (n9))]) (rest := []) (zX_k ea mi sa) hX Z Mz9 (hw4 _) (vx_cwSW 3 hts gL_isNearer_L_fewest rfl rfl rfl (by decide +kernel) ⟨by decide, by decide⟩) rfl hl9.1 (Nat.le_of_ble_eq_true rfl) dL_isNearer_167 ⟨by show _ ≤ 320; omega, by show _ ≤ 4480; omega⟩ rfl (fun u9 Hp9 lc9 Mz9 => ?_)
          refine lv_iload hx hb dL_isNearer_170 (lv_at hl9 3 rfl) ?_
          refine lv_iconst (v := 1) hx hb dL_isNearer_172 (by decide) ?_
          refine zn_isub (a := d9 + 1) (b := 1) (by omega) hx hb dL_isNearer_173 ?_
          refine zn_icmp_ne (a := d9) (b := d9) (tgt := 181) (by omega) (by omega) hx hb dL_isNearer_174 (by decide) (fun h => absurd h (fun q => q rfl)) (fun _ => ?_)
          refine lv_iconst (v := 1) hx hb dL_isNearer_177 (by decide) ?_
          refine lv_goto (tgt := 182) hx hb dL_isNearer_178 (by decide) ?_
          exact hret _ _ _ _ _ sl9 _ _ (⟨((J, ad, N, mst, bst, ρ4), upd ga 5 ((ga 5) + 1), ma, aa, ca, ta), ⟨(I_le (Nat.le_succ C) hI4), (GR_5 hGr _), rfl⟩⟩) Mz9 rfl (rfl) rfl (by show _ ≤ 320; omega) (by show _ ≤ 4480; omega) dL_isNearer_182
        ·
          refine lv_iload hx hb dL_isNearer_60 (lv_at hl9 1 rfl) ?_
          refine lv_iconst (v := (-1)) hx hb dL_isNearer_62 (by decide) ?_
          refine lv_icmp_ne (tgt := 70) hx hb dL_isNearer_63 (by decide) (fun _ => ?_) (fun h => absurd h (nn1 (by omega)))
          refine lv_iconst (v := 0) hx hb dL_isNearer_70 (by decide) ?_
          refine lv_iload hx hb dL_isNearer_71 (lv_at hl9 2 rfl) ?_
          refine lv_iconst (v := 1) hx hb dL_isNearer_73 (by decide) ?_
          refine zn_icmp_ge (a := d9 + 1) (b := 1) (tgt := 81) (by omega) (by decide) hx hb dL_isNearer_74 (by decide) (fun _ => ?_) (fun h => absurd h (by omega))
          refine lv_iconst (v := 0) hx hb dL_isNearer_81 (by decide) ?_
          refine lv_icmp_ne (tgt := 127) hx hb dL_isNearer_82 (by decide) (fun h => absurd h (by decide)) (fun _ => ?_)
          refine lv_iload hx hb dL_isNearer_85 (lv_at hl9 2 rfl) ?_
          refine zn_if_ne (a := d9 + 1) (tgt := 94) (by omega) hx hb dL_isNearer_87 (by decide) (fun _ => ?_) (fun h => absurd h (by omega))
          refine lv_iconst (v := 0) hx hb dL_isNearer_94 (by decide) ?_
          refine lv_iload hx hb dL_isNearer_95 (lv_at hl9 0 rfl) ?_
          refine lv_iload_n hx hb dL_isNearer_97 rfl (lv_at hl9 6 rfl) ?_
          refine zn_icmp_ne (a := p9) (b := n9) (tgt := 105) (by omega) (by omega) hx hb dL_isNearer_98 (by decide) (fun _ => ?_) (fun h => absurd h (hne))
          refine lv_iconst (v := 0) hx hb dL_isNearer_105 (by decide) ?_
          refine lv_icmp_ne (tgt := 127) hx hb dL_isNearer_106 (by decide) (fun h => absurd h (by decide)) (fun _ => ?_)
          refine lv_iload_n hx hb dL_isNearer_109 rfl (lv_at hl9 6 rfl) ?_
          refine z_callSi (As := [.int (nI (n9))]) (rest := []) Z.1 (ln_ones l hn9) (va_cwS 1 hts gL_isNearer_L_ones rfl rfl rfl (by decide +kernel) ⟨by decide, by decide⟩) rfl hl9.1 (Nat.le_of_ble_eq_true rfl) dL_isNearer_110 ⟨by show _ ≤ 320; omega, by show _ ≤ 4480; omega⟩ rfl ?_
          refine lv_iconst (v := 4) hx hb dL_isNearer_113 (by decide) ?_
          refine zn_icmp_eq (a := pop n9) (b := 4) (tgt := 123) (by omega) (by decide) hx hb dL_isNearer_114 (by decide) (fun _ => ?_) (fun h => absurd h (fun q => q hpop))
          refine lv_iconst (v := 1) hx hb dL_isNearer_123 (by decide) ?_
          refine lv_goto (tgt := 128) hx hb dL_isNearer_124 (by decide) ?_
          exact hret _ _ _ _ _ sl9 _ _ (⟨((J, ad, N, mst, bst, ρ2), upd ga 5 ((ga 5) + 1), ma, aa, ca, ta), ⟨(I_le (Nat.le_succ C) hI2), (GR_5 hGr _), rfl⟩⟩) Mz9 rfl (rfl) rfl (by show _ ≤ 320; omega) (by show _ ≤ 4480; omega) dL_isNearer_128
  ·
    refine lv_iconst (v := 1) hx hb dL_isNearer_15 (by decide) ?_
    exact hret _ _ _ _ _ sl9 _ _ (⟨((J, ad, N, mst, bst, ρ), upd ga 5 ((ga 5) + 1), ma, aa, ca, ta), ⟨(I_le (Nat.le_succ C) hI), (GR_5 hGr _), rfl⟩⟩) Mz9 rfl (rfl) rfl (by show _ ≤ 320; omega) (by show _ ≤ 4480; omega) dL_isNearer_16
end LAW5
