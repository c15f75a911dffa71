/-! ===== the law's own methods: makes ===== -/
theorem GR_m {N : Nat → Nat} {ga : Nat → Int32} (h : GRc N ga) : GRc (Nm N) (upd ga 0 (nI (N 0 + 1))) := by
  obtain ⟨h0, h1, h2, h3, h4⟩ := h
  exact ⟨upd_same _ _ _, (upd_ne _ _ (by decide)).trans h1, (upd_ne _ _ (by decide)).trans h2, (upd_ne _ _ (by decide)).trans h3, (upd_ne _ _ (by decide)).trans h4⟩
theorem GR_b {N : Nat → Nat} {ga : Nat → Int32} (h : GRc N ga) : GRc (Nb N) (upd ga 1 (nI (N 1 + 1))) := by
  obtain ⟨h0, h1, h2, h3, h4⟩ := h
  exact ⟨(upd_ne _ _ (by decide)).trans h0, upd_same _ _ _, (upd_ne _ _ (by decide)).trans h2, (upd_ne _ _ (by decide)).trans h3, (upd_ne _ _ (by decide)).trans h4⟩
theorem GR_d {N : Nat → Nat} {ga : Nat → Int32} (h : GRc N ga) : GRc (Nd N) (upd ga 2 (nI (N 2 + 1))) := by
  obtain ⟨h0, h1, h2, h3, h4⟩ := h
  exact ⟨(upd_ne _ _ (by decide)).trans h0, (upd_ne _ _ (by decide)).trans h1, upd_same _ _ _, (upd_ne _ _ (by decide)).trans h3, (upd_ne _ _ (by decide)).trans h4⟩
theorem GR_2 {N : Nat → Nat} {ga : Nat → Int32} (h : GRc N ga) {x : Nat} (hx : N 2 = x) : GRc N (upd ga 2 (nI x)) := by
  obtain ⟨h0, h1, h2, h3, h4⟩ := h
  exact ⟨(upd_ne _ _ (by decide)).trans h0, (upd_ne _ _ (by decide)).trans h1, (upd_same _ _ _).trans (congrArg nI hx.symm), (upd_ne _ _ (by decide)).trans h3, (upd_ne _ _ (by decide)).trans h4⟩
section LAW6
variable {l : Launch} {D : va_G} {T : Nat → ClassId} {ea mi : Nat} {sa : Nat → Nat}
variable {C : Nat} {ad : Nat → Nat} {J : List Nat} {N mst bst : Nat → Nat} {ρ : Nat → Nat → Int32} {ga ma aa ca ta : Nat → Int32} {av : Nat → Nat} {i : Nat}
set_option maxHeartbeats 4000000 in
set_option maxRecDepth 100000 in
theorem lm_makes (hfl : l.stackTraces = false) (hI : Inv C J N mst bst ρ aa ca) (hGr : GRc N ga) (x9 y9 : Int32) : ZIH l yL_makes wsL_makes mR9 (zX ea mi sa) D T (S := {Y : YS // PIc (C + 1) (ad 0) Y}) (lwR T av ga ma aa ca ta ++ iw J ad (hG ad T ea nof N mst bst ρ)) (fun Y => yW T ea av Y.1) [.ref (ad 0), .ref (av 0), .ref (av 1), .ref (av 2), .ref (av 4), .int (x9), .int (y9)] 1 320 4480 := by
  obtain ⟨hg0, hg1, hg2, hg3, hg4⟩ := id hGr
  have hn0 := hI.1.2.2.1
  have hn1 := I_N1 hI
  have hn2 := hI.1.2.2.2.2
  refine z_inIHC (cc := cL_makes) (maxL := 10) (rt := .boolean) (by decide +kernel) rfl (Nat.le_of_ble_eq_true rfl) ?_
  intro p e s m args below meth c sl9 A Q Z hX Mz9 hl9 hret
  have Z : zC p s m args c cL_makes 10 RL wsL_makes D T A := Z
  have hx := Z.1.1
  have hb := Z.1.2.1
  have hts := Z.1.2.2.2.2
  have hl9 : lv_has sl9 10 [(0, .ref (ad 0)), (1, .ref (av 0)), (2, .ref (av 1)), (3, .ref (av 2)), (4, .ref (av 4)), (5, .int (x9)), (6, .int (y9))] := hl9
  refine lv_aload_n hx hb dL_makes_0 rfl (lv_at hl9 1 rfl) ?_
  refine lv_iconst (v := 0) hx hb dL_makes_1 (by decide) ?_
  refine z_iald Z Mz9 0 (h0 := av 0) (n := 6) (f := ga) rfl (j := 0) (by decide) (by decide) dL_makes_2 ?_
  refine zn_top (y := nI (N 0)) (hg0) ?_
  refine zn_if_eq (a := N 0) (tgt := 15) (by omega) hx hb dL_makes_3 (by decide) (fun c_1 => ?_) (fun c_1 => ?_)
  ·
    refine lv_iload hx hb dL_makes_15 (lv_at hl9 6 rfl) ?_
    refine lv_iconst (v := 4) hx hb dL_makes_17 (by decide) ?_
    obtain ⟨q1, b1, z1⟩ := ln_low2 l y9 4 (by decide)
    refine z_callSi (As := [.int (y9), .int 4]) (rest := []) Z.1 z1 (va_cwS 2 hts gL_makes_L_low rfl rfl rfl (by decide +kernel) ⟨by decide, by decide⟩) rfl hl9.1 (Nat.le_of_ble_eq_true rfl) dL_makes_18 ⟨by show _ ≤ 320; omega, by show _ ≤ 4480; omega⟩ rfl ?_
    refine lv_istore (lv' := [(7, .int (nI (q1))), (0, .ref (ad 0)), (1, .ref (av 0)), (2, .ref (av 1)), (3, .ref (av 2)), (4, .ref (av 4)), (5, .int (x9)), (6, .int (y9))]) hx hb dL_makes_21 hl9 (by decide) rfl (fun sl9 hl9 => ?_)
    refine lv_aload_n hx hb dL_makes_23 rfl (lv_at hl9 1 rfl) ?_
    refine lv_iload hx hb dL_makes_24 (lv_at hl9 0 rfl) ?_
    by_cases h4 : N 0 < 20
    ·
      refine z_callW (As := [.ref (ad 0), .int (nI (q1))]) (rest := []) (zX_k ea mi sa) hX Z Mz9 (hc_melt hI (j := q1) (by omega) h4 _) (vx_cwSW 2 hts gL_makes_L_melt rfl rfl rfl (by decide +kernel) ⟨by decide, by decide⟩) rfl hl9.1 (Nat.le_of_ble_eq_true rfl) dL_makes_26 ⟨by show _ ≤ 320; omega, by show _ ≤ 4480; omega⟩ rfl (fun u9 Hp9 lc9 Mz9 => ?_)
      obtain ⟨⟨J1, ad1, N1, mst1, bst1, ρ1⟩, hX0, hXN, hI1⟩ := u9
      have hXN : N1 = Nm N := hXN
      subst hXN
      have hX0 : ad1 0 = ad 0 := hX0
      have hI1 : Inv C J1 (Nm N) mst1 bst1 ρ1 aa ca := hI1
      have Mz9 : zM D A s.heap (lwR T av ga ma aa ca ta ++ iw J1 ad1 (hG ad1 T ea nof (Nm N) mst1 bst1 ρ1)) _ _ := Mz9
      refine lv_istore (lv' := [(8, .int (nI (N 0))), (7, .int (nI (q1))), (0, .ref (ad 0)), (1, .ref (av 0)), (2, .ref (av 1)), (3, .ref (av 2)), (4, .ref (av 4)), (5, .int (x9)), (6, .int (y9))]) hx hb dL_makes_29 hl9 (by decide) rfl (fun sl9 hl9 => ?_)
      refine lv_aload_n hx hb dL_makes_31 rfl (lv_at hl9 3 rfl) ?_
      refine lv_iconst (v := 0) hx hb dL_makes_32 (by decide) ?_
      refine z_iald Z Mz9 0 (h0 := av 0) (n := 6) (f := ga) rfl (j := 0) (by decide) (by decide) dL_makes_33 ?_
      refine zn_top (y := nI (N 0)) (hg0) ?_
      refine lv_bipush (v := 20) hx hb dL_makes_34 (by decide) ?_
      refine zn_icmp_ne (a := N 0) (b := 20) (tgt := 52) (by omega) (by decide) hx hb dL_makes_36 (by decide) (fun _ => ?_) (fun h => absurd h (fun q => absurd q (by omega)))
      refine lv_aload hx hb dL_makes_52 (lv_at hl9 6 rfl) ?_
      refine lv_aload_n hx hb dL_makes_54 rfl (lv_at hl9 3 rfl) ?_
      refine lv_iconst (v := 0) hx hb dL_makes_55 (by decide) ?_
      refine z_iald Z Mz9 0 (h0 := av 0) (n := 6) (f := ga) rfl (j := 0) (by decide) (by decide) dL_makes_56 ?_
      refine zn_top (y := nI (N 0)) (hg0) ?_
      refine lv_iload hx hb dL_makes_57 (lv_at hl9 1 rfl) ?_
      refine z_iast Z Mz9 4 (h0 := av 4) (n := 20) (f := ta) rfl (j := N 0) (x := nI (q1)) (by omega) (by decide) (ws' := lwR T av ga ma aa ca (upd ta (N 0) (nI (q1))) ++ iw J1 ad1 (hG ad1 T ea nof (Nm N) mst1 bst1 ρ1)) rfl dL_makes_59 (fun Hp9 lc9 Mz9 => ?_)
      refine lv_aload_n hx hb dL_makes_60 rfl (lv_at hl9 3 rfl) ?_
      refine lv_iconst (v := 0) hx hb dL_makes_61 (by decide) ?_
      refine lv_dup2_11 hx hb dL_makes_62 rfl rfl ?_
      refine z_iald Z Mz9 0 (h0 := av 0) (n := 6) (f := ga) rfl (j := 0) (by decide) (by decide) dL_makes_63 ?_
      refine zn_top (y := nI (N 0)) (hg0) ?_
      refine lv_iconst (v := 1) hx hb dL_makes_64 (by decide) ?_
      refine zn_iadd (a := N 0) (b := 1) hx hb dL_makes_65 ?_
      refine z_iast Z Mz9 0 (h0 := av 0) (n := 6) (f := ga) rfl (j := 0) (x := nI ((N 0) + 1)) (by decide) (by decide) (ws' := lwR T av (upd ga 0 (nI ((N 0) + 1))) ma aa ca (upd ta (N 0) (nI (q1))) ++ iw J1 ad1 (hG ad1 T ea nof (Nm N) mst1 bst1 ρ1)) rfl dL_makes_66 (fun Hp9 lc9 Mz9 => ?_)
      refine lv_iload hx hb dL_makes_67 (lv_at hl9 0 rfl) ?_
      refine lv_aload_n hx hb dL_makes_69 rfl (lv_at hl9 3 rfl) ?_
      refine lv_iconst (v := 0) hx hb dL_makes_70 (by decide) ?_
      refine z_iald Z Mz9 0 (h0 := av 0) (n := 6) (f := upd ga 0 (nI ((N 0) + 1))) rfl (j := 0) (by decide) (by decide) dL_makes_71 ?_
      refine zn_top (y := nI (N 0 + 1)) (upd_same _ _ _) ?_
      refine lv_iconst (v := 1) hx hb dL_makes_72 (by decide) ?_
      refine zn_isub (a := N 0 + 1) (b := 1) (by omega) hx hb dL_makes_73 ?_
      refine zn_icmp_ne (a := N 0) (b := (N 0 + 1) - 1) (tgt := 81) (by omega) (by omega) hx hb dL_makes_74 (by decide) (fun h => absurd h (fun q => q (by omega))) (fun _ => ?_)
      refine lv_iconst (v := 1) hx hb dL_makes_77 (by decide) ?_
      refine lv_goto (tgt := 82) hx hb dL_makes_78 (by decide) ?_
      exact hret _ _ _ _ _ sl9 _ _ (⟨((J1, ad1, Nm N, mst1, bst1, ρ1), upd ga 0 (nI ((N 0) + 1)), ma, aa, ca, upd ta (N 0) (nI (q1))), ⟨(I_le (Nat.le_succ C) hI1), (GR_m hGr), hX0⟩⟩) Mz9 rfl (rfl) rfl (by show _ ≤ 320; omega) (by show _ ≤ 4480; omega) dL_makes_82
    ·
      have hw1 := hc_melt_w (l := l) (D := D) (T := T) (ea := ea) (mi := mi) (sa := sa) (ad := ad) (J := J) (N := N) (mst := mst) (bst := bst) (ρ := ρ) hfl hI (j := q1) (by omega) (by omega)
      refine z_callW (As := [.ref (ad 0), .int (nI (q1))]) (rest := []) (zX_k ea mi sa) hX Z Mz9 (hw1 _) (vx_cwSW 2 hts gL_makes_L_melt rfl rfl rfl (by decide +kernel) ⟨by decide, by decide⟩) rfl hl9.1 (Nat.le_of_ble_eq_true rfl) dL_makes_26 ⟨by show _ ≤ 320; omega, by show _ ≤ 4480; omega⟩ rfl (fun u9 Hp9 lc9 Mz9 => ?_)
      refine lv_istore (lv' := [(8, .int (-1000003)), (7, .int (nI (q1))), (0, .ref (ad 0)), (1, .ref (av 0)), (2, .ref (av 1)), (3, .ref (av 2)), (4, .ref (av 4)), (5, .int (x9)), (6, .int (y9))]) hx hb dL_makes_29 hl9 (by decide) rfl (fun sl9 hl9 => ?_)
      refine lv_aload_n hx hb dL_makes_31 rfl (lv_at hl9 3 rfl) ?_
      refine lv_iconst (v := 0) hx hb dL_makes_32 (by decide) ?_
      refine z_iald Z Mz9 0 (h0 := av 0) (n := 6) (f := ga) rfl (j := 0) (by decide) (by decide) dL_makes_33 ?_
      refine zn_top (y := nI (N 0)) (hg0) ?_
      refine lv_bipush (v := 20) hx hb dL_makes_34 (by decide) ?_
      refine zn_icmp_ne (a := N 0) (b := 20) (tgt := 52) (by omega) (by decide) hx hb dL_makes_36 (by decide) (fun h => absurd h (fun q => q (by omega))) (fun _ => ?_)
      refine lv_iload hx hb dL_makes_39 (lv_at hl9 0 rfl) ?_
      refine lv_ldc (v := (-1000003)) hx hb Z.1.2.2.2.1 (hts (.constant RL 28 (-1000003)) (by decide +kernel)) dL_makes_41 ?_
      refine lv_icmp_ne (tgt := 50) hx hb dL_makes_43 (by decide) (fun h => absurd h (by decide)) (fun _ => ?_)
      refine lv_iconst (v := 1) hx hb dL_makes_46 (by decide) ?_
      refine lv_goto (tgt := 51) hx hb dL_makes_47 (by decide) ?_
      exact hret _ _ _ _ _ sl9 _ _ (⟨((J, ad, N, mst, bst, ρ), ga, ma, aa, ca, ta), ⟨(I_le (Nat.le_succ C) hI), hGr, rfl⟩⟩) Mz9 rfl (rfl) rfl (by show _ ≤ 320; omega) (by show _ ≤ 4480; omega) dL_makes_51
  ·
    refine lv_iload hx hb dL_makes_6 (lv_at hl9 5 rfl) ?_
    refine lv_iconst (v := 5) hx hb dL_makes_8 (by decide) ?_
    obtain ⟨q2, b2, z2⟩ := ln_low2 l x9 5 (by decide)
    refine z_callSi (As := [.int (x9), .int 5]) (rest := []) Z.1 z2 (va_cwS 2 hts gL_makes_L_low rfl rfl rfl (by decide +kernel) ⟨by decide, by decide⟩) rfl hl9.1 (Nat.le_of_ble_eq_true rfl) dL_makes_9 ⟨by show _ ≤ 320; omega, by show _ ≤ 4480; omega⟩ rfl ?_
    refine zn_if_ne (a := q2) (tgt := 83) (by omega) hx hb dL_makes_12 (by decide) (fun c_2 => ?_) (fun c_2 => ?_)
    ·
      refine lv_iload hx hb dL_makes_83 (lv_at hl9 5 rfl) ?_
      refine lv_iconst (v := 5) hx hb dL_makes_85 (by decide) ?_
      refine z_callSi (As := [.int (x9), .int 5]) (rest := []) Z.1 z2 (va_cwS 2 hts gL_makes_L_low rfl rfl rfl (by decide +kernel) ⟨by decide, by decide⟩) rfl hl9.1 (Nat.le_of_ble_eq_true rfl) dL_makes_86 ⟨by show _ ≤ 320; omega, by show _ ≤ 4480; omega⟩ rfl ?_
      refine lv_iconst (v := 1) hx hb dL_makes_89 (by decide) ?_
      refine zn_icmp_ne (a := q2) (b := 1) (tgt := 147) (by omega) (by decide) hx hb dL_makes_90 (by decide) (fun c_3 => ?_) (fun c_3 => ?_)
      ·
        refine lv_iload hx hb dL_makes_147 (lv_at hl9 6 rfl) ?_
        refine lv_aload_n hx hb dL_makes_149 rfl (lv_at hl9 1 rfl) ?_
        refine lv_iconst (v := 0) hx hb dL_makes_150 (by decide) ?_
        refine z_iald Z Mz9 0 (h0 := av 0) (n := 6) (f := ga) rfl (j := 0) (by decide) (by decide) dL_makes_151 ?_
        refine zn_top (y := nI (N 0)) (hg0) ?_
        obtain ⟨q3, b3, z3⟩ := ln_low2 l y9 (N 0) (by omega)
        refine z_callSi (As := [.int (y9), .int (nI (N 0))]) (rest := []) Z.1 z3 (va_cwS 2 hts gL_makes_L_low rfl rfl rfl (by decide +kernel) ⟨by decide, by decide⟩) rfl hl9.1 (Nat.le_of_ble_eq_true rfl) dL_makes_152 ⟨by show _ ≤ 320; omega, by show _ ≤ 4480; omega⟩ rfl ?_
        refine lv_istore (lv' := [(7, .int (nI (q3))), (0, .ref (ad 0)), (1, .ref (av 0)), (2, .ref (av 1)), (3, .ref (av 2)), (4, .ref (av 4)), (5, .int (x9)), (6, .int (y9))]) hx hb dL_makes_155 hl9 (by decide) rfl (fun sl9 hl9 => ?_)
        refine lv_iconst (v := 2) hx hb dL_makes_157 (by decide) ?_
        refine lv_iload hx hb dL_makes_158 (lv_at hl9 7 rfl) ?_
        refine lv_iconst (v := 5) hx hb dL_makes_160 (by decide) ?_
        refine lv_ishr hx hb dL_makes_161 ?_
        refine lv_bipush (v := 60) hx hb dL_makes_162 (by decide) ?_
        obtain ⟨q4, b4, z4⟩ := ln_low2 l (y9 >>> (5 &&& 31)) 60 (by decide)
        refine z_callSi (As := [.int (y9 >>> (5 &&& 31)), .int 60]) (rest := [.int 2]) Z.1 z4 (va_cwS 2 hts gL_makes_L_low rfl rfl rfl (by decide +kernel) ⟨by decide, by decide⟩) rfl hl9.1 (Nat.le_of_ble_eq_true rfl) dL_makes_164 ⟨by show _ ≤ 320; omega, by show _ ≤ 4480; omega⟩ rfl ?_
        refine zn_iadd (a := 2) (b := q4) hx hb dL_makes_167 ?_
        refine lv_istore (lv' := [(8, .int (nI (2 + q4))), (7, .int (nI (q3))), (0, .ref (ad 0)), (1, .ref (av 0)), (2, .ref (av 1)), (3, .ref (av 2)), (4, .ref (av 4)), (5, .int (x9)), (6, .int (y9))]) hx hb dL_makes_168 hl9 (by decide) rfl (fun sl9 hl9 => ?_)
        refine lv_aload_n hx hb dL_makes_170 rfl (lv_at hl9 2 rfl) ?_
        refine lv_iload hx hb dL_makes_171 (lv_at hl9 1 rfl) ?_
        refine lv_iload hx hb dL_makes_173 (lv_at hl9 0 rfl) ?_
        by_cases h4 : N 1 < 12
        ·
          refine z_callW (As := [.ref (ad 0), .int (nI (q3)), .int (nI (2 + q4))]) (rest := []) (zX_k ea mi sa) hX Z Mz9 (hc_billet hI (mo := q3) (nw := 2 + q4) (by omega) (by omega) (by omega) h4 _) (vx_cwSW 3 hts gL_makes_L_billet rfl rfl rfl (by decide +kernel) ⟨by decide, by decide⟩) rfl hl9.1 (Nat.le_of_ble_eq_true rfl) dL_makes_175 ⟨by show _ ≤ 320; omega, by show _ ≤ 4480; omega⟩ rfl (fun u9 Hp9 lc9 Mz9 => ?_)
          obtain ⟨⟨J1, ad1, N1, mst1, bst1, ρ1⟩, hX0, hXN, h240, hI1⟩ := u9
          have hXN : N1 = Nb N := hXN
          subst hXN
          have hX0 : ad1 0 = ad 0 := hX0
          have hI1 : Inv C J1 (Nb N) mst1 bst1 ρ1 (upd aa (N 1) (nI (2 + q4))) ca := hI1
          have h240 : ρ1 (100 + 3 * N 1) 13 = 240 := h240
          have Mz9 : zM D A s.heap (lwR T av ga ma aa ca ta ++ iw J1 ad1 (hG ad1 T ea nof (Nb N) mst1 bst1 ρ1)) _ _ := Mz9
          refine lv_istore (lv' := [(9, .int (nI (N 1))), (8, .int (nI (2 + q4))), (7, .int (nI (q3))), (0, .ref (ad 0)), (1, .ref (av 0)), (2, .ref (av 1)), (3, .ref (av 2)), (4, .ref (av 4)), (5, .int (x9)), (6, .int (y9))]) hx hb dL_makes_178 hl9 (by decide) rfl (fun sl9 hl9 => ?_)
          refine lv_aload_n hx hb dL_makes_180 rfl (lv_at hl9 4 rfl) ?_
          refine lv_iconst (v := 1) hx hb dL_makes_181 (by decide) ?_
          refine z_iald Z Mz9 0 (h0 := av 0) (n := 6) (f := ga) rfl (j := 1) (by decide) (by decide) dL_makes_182 ?_
          refine zn_top (y := nI (N 1)) (hg1) ?_
          refine lv_bipush (v := 12) hx hb dL_makes_183 (by decide) ?_
          refine zn_icmp_ne (a := N 1) (b := 12) (tgt := 201) (by omega) (by decide) hx hb dL_makes_185 (by decide) (fun _ => ?_) (fun h => absurd h (fun q => absurd q (by omega)))
          refine lv_aload_n hx hb dL_makes_201 rfl (lv_at hl9 5 rfl) ?_
          refine lv_aload_n hx hb dL_makes_202 rfl (lv_at hl9 4 rfl) ?_
          refine lv_iconst (v := 1) hx hb dL_makes_203 (by decide) ?_
          refine z_iald Z Mz9 0 (h0 := av 0) (n := 6) (f := ga) rfl (j := 1) (by decide) (by decide) dL_makes_204 ?_
          refine zn_top (y := nI (N 1)) (hg1) ?_
          refine lv_iload hx hb dL_makes_205 (lv_at hl9 2 rfl) ?_
          refine z_iast Z Mz9 1 (h0 := av 1) (n := 12) (f := ma) rfl (j := N 1) (x := nI (q3)) (by omega) (by decide) (ws' := lwR T av ga (upd ma (N 1) (nI (q3))) aa ca ta ++ iw J1 ad1 (hG ad1 T ea nof (Nb N) mst1 bst1 ρ1)) rfl dL_makes_207 (fun Hp9 lc9 Mz9 => ?_)
          refine lv_aload_n hx hb dL_makes_208 rfl (lv_at hl9 6 rfl) ?_
          refine lv_aload_n hx hb dL_makes_209 rfl (lv_at hl9 4 rfl) ?_
          refine lv_iconst (v := 1) hx hb dL_makes_210 (by decide) ?_
          refine z_iald Z Mz9 0 (h0 := av 0) (n := 6) (f := ga) rfl (j := 1) (by decide) (by decide) dL_makes_211 ?_
          refine zn_top (y := nI (N 1)) (hg1) ?_
          refine lv_iload hx hb dL_makes_212 (lv_at hl9 1 rfl) ?_
          refine z_iast Z Mz9 2 (h0 := av 2) (n := 12) (f := aa) rfl (j := N 1) (x := nI (2 + q4)) (by omega) (by decide) (ws' := lwR T av ga (upd ma (N 1) (nI (q3))) (upd aa (N 1) (nI (2 + q4))) ca ta ++ iw J1 ad1 (hG ad1 T ea nof (Nb N) mst1 bst1 ρ1)) rfl dL_makes_214 (fun Hp9 lc9 Mz9 => ?_)
          refine lv_aload_n hx hb dL_makes_215 rfl (lv_at hl9 4 rfl) ?_
          refine lv_iconst (v := 1) hx hb dL_makes_216 (by decide) ?_
          refine lv_dup2_11 hx hb dL_makes_217 rfl rfl ?_
          refine z_iald Z Mz9 0 (h0 := av 0) (n := 6) (f := ga) rfl (j := 1) (by decide) (by decide) dL_makes_218 ?_
          refine zn_top (y := nI (N 1)) (hg1) ?_
          refine lv_iconst (v := 1) hx hb dL_makes_219 (by decide) ?_
          refine zn_iadd (a := N 1) (b := 1) hx hb dL_makes_220 ?_
          refine z_iast Z Mz9 0 (h0 := av 0) (n := 6) (f := ga) rfl (j := 1) (x := nI ((N 1) + 1)) (by decide) (by decide) (ws' := lwR T av (upd ga 1 (nI ((N 1) + 1))) (upd ma (N 1) (nI (q3))) (upd aa (N 1) (nI (2 + q4))) ca ta ++ iw J1 ad1 (hG ad1 T ea nof (Nb N) mst1 bst1 ρ1)) rfl dL_makes_221 (fun Hp9 lc9 Mz9 => ?_)
          refine lv_iload hx hb dL_makes_222 (lv_at hl9 0 rfl) ?_
          refine lv_aload_n hx hb dL_makes_224 rfl (lv_at hl9 4 rfl) ?_
          refine lv_iconst (v := 1) hx hb dL_makes_225 (by decide) ?_
          refine z_iald Z Mz9 0 (h0 := av 0) (n := 6) (f := upd ga 1 (nI ((N 1) + 1))) rfl (j := 1) (by decide) (by decide) dL_makes_226 ?_
          refine zn_top (y := nI (N 1 + 1)) (upd_same _ _ _) ?_
          refine lv_iconst (v := 1) hx hb dL_makes_227 (by decide) ?_
          refine zn_isub (a := N 1 + 1) (b := 1) (by omega) hx hb dL_makes_228 ?_
          refine zn_icmp_ne (a := N 1) (b := (N 1 + 1) - 1) (tgt := 250) (by omega) (by omega) hx hb dL_makes_229 (by decide) (fun h => absurd h (fun q => q (by omega))) (fun _ => ?_)
          refine lv_aload_n hx hb dL_makes_232 rfl (lv_at hl9 3 rfl) ?_
          refine lv_iload hx hb dL_makes_233 (lv_at hl9 0 rfl) ?_
          refine lv_bipush (v := 7) hx hb dL_makes_235 (by decide) ?_
          have hw3 := fun lw => hc_bIs7 (l := l) (D := D) (T := T) (ea := ea) (mi := mi) (sa := sa) (ad := ad1) hI1 (i := N 1) (Nat.lt_succ_self (N 1)) lw
          rw [hX0, h240] at hw3
          refine z_callW (As := [.ref (ad 0), .int (nI (N 1)), .int 7]) (rest := []) (zX_k ea mi sa) hX Z Mz9 (hw3 _) (vx_cwSW 3 hts gL_makes_L_billetIs rfl rfl rfl (by decide +kernel) ⟨by decide, by decide⟩) rfl hl9.1 (Nat.le_of_ble_eq_true rfl) dL_makes_237 ⟨by show _ ≤ 320; omega, by show _ ≤ 4480; omega⟩ rfl (fun u9 Hp9 lc9 Mz9 => ?_)
          refine lv_sipush (v := 240) hx hb dL_makes_240 (by decide) ?_
          refine lv_icmp_ne (tgt := 250) hx hb dL_makes_243 (by decide) (fun h => absurd h (by decide)) (fun _ => ?_)
          refine lv_iconst (v := 1) hx hb dL_makes_246 (by decide) ?_
          refine lv_goto (tgt := 251) hx hb dL_makes_247 (by decide) ?_
          exact hret _ _ _ _ _ sl9 _ _ (⟨((J1, ad1, Nb N, mst1, bst1, ρ1), upd ga 1 (nI ((N 1) + 1)), upd ma (N 1) (nI (q3)), upd aa (N 1) (nI (2 + q4)), ca, ta), ⟨(I_le (Nat.le_succ C) hI1), (GR_b hGr), hX0⟩⟩) Mz9 rfl (rfl) rfl (by show _ ≤ 320; omega) (by show _ ≤ 4480; omega) dL_makes_251
        ·
          have hw1 := hc_billet_w (l := l) (D := D) (T := T) (ea := ea) (mi := mi) (sa := sa) (ad := ad) (J := J) (N := N) (mst := mst) (bst := bst) (ρ := ρ) hfl hI (mo := q3) (nw := 2 + q4) (by omega) (by omega) (by omega) (by omega)
          refine z_callW (As := [.ref (ad 0), .int (nI (q3)), .int (nI (2 + q4))]) (rest := []) (zX_k ea mi sa) hX Z Mz9 (hw1 _) (vx_cwSW 3 hts gL_makes_L_billet rfl rfl rfl (by decide +kernel) ⟨by decide, by decide⟩) rfl hl9.1 (Nat.le_of_ble_eq_true rfl) dL_makes_175 ⟨by show _ ≤ 320; omega, by show _ ≤ 4480; omega⟩ rfl (fun u9 Hp9 lc9 Mz9 => ?_)
          refine lv_istore (lv' := [(9, .int (-1000003)), (8, .int (nI (2 + q4))), (7, .int (nI (q3))), (0, .ref (ad 0)), (1, .ref (av 0)), (2, .ref (av 1)), (3, .ref (av 2)), (4, .ref (av 4)), (5, .int (x9)), (6, .int (y9))]) hx hb dL_makes_178 hl9 (by decide) rfl (fun sl9 hl9 => ?_)
          refine lv_aload_n hx hb dL_makes_180 rfl (lv_at hl9 4 rfl) ?_
          refine lv_iconst (v := 1) hx hb dL_makes_181 (by decide) ?_
          refine z_iald Z Mz9 0 (h0 := av 0) (n := 6) (f := ga) rfl (j := 1) (by decide) (by decide) dL_makes_182 ?_
          refine zn_top (y := nI (N 1)) (hg1) ?_
          refine lv_bipush (v := 12) hx hb dL_makes_183 (by decide) ?_
          refine zn_icmp_ne (a := N 1) (b := 12) (tgt := 201) (by omega) (by decide) hx hb dL_makes_185 (by decide) (fun h => absurd h (fun q => q (by omega))) (fun _ => ?_)
          refine lv_iload hx hb dL_makes_188 (lv_at hl9 0 rfl) ?_
          refine lv_ldc (v := (-1000003)) hx hb Z.1.2.2.2.1 (hts (.constant RL 28 (-1000003)) (by decide +kernel)) dL_makes_190 ?_
          refine lv_icmp_ne (tgt := 199) hx hb dL_makes_192 (by decide) (fun h => absurd h (by decide)) (fun _ => ?_)
          refine lv_iconst (v := 1) hx hb dL_makes_195 (by decide) ?_
          refine lv_goto (tgt := 200) hx hb dL_makes_196 (by decide) ?_
          exact hret _ _ _ _ _ sl9 _ _ (⟨((J, ad, N, mst, bst, ρ), ga, ma, aa, ca, ta), ⟨(I_le (Nat.le_succ C) hI), hGr, rfl⟩⟩) Mz9 rfl (rfl) rfl (by show _ ≤ 320; omega) (by show _ ≤ 4480; omega) dL_makes_200
      ·
        refine lv_aload_n hx hb dL_makes_93 rfl (lv_at hl9 0 rfl) ?_
        by_cases h4 : N 2 < 4
        ·
          refine z_callW (As := [.ref (ad 0)]) (rest := []) (zX_k ea mi sa) hX Z Mz9 (hc_die hI h4 _) (vx_cwSW 1 hts gL_makes_L_die rfl rfl rfl (by decide +kernel) ⟨by decide, by decide⟩) rfl hl9.1 (Nat.le_of_ble_eq_true rfl) dL_makes_94 ⟨by show _ ≤ 320; omega, by show _ ≤ 4480; omega⟩ rfl (fun u9 Hp9 lc9 Mz9 => ?_)
          obtain ⟨⟨J1, ad1, N1, mst1, bst1, ρ1⟩, hX0, hXN, hI1⟩ := u9
          have hXN : N1 = Nd N := hXN
          subst hXN
          have hX0 : ad1 0 = ad 0 := hX0
          have hI1 : Inv C J1 (Nd N) mst1 bst1 ρ1 aa ca := hI1
          have Mz9 : zM D A s.heap (lwR T av ga ma aa ca ta ++ iw J1 ad1 (hG ad1 T ea nof (Nd N) mst1 bst1 ρ1)) _ _ := Mz9
          refine lv_istore (lv' := [(7, .int (nI (N 2))), (0, .ref (ad 0)), (1, .ref (av 0)), (2, .ref (av 1)), (3, .ref (av 2)), (4, .ref (av 4)), (5, .int (x9)), (6, .int (y9))]) hx hb dL_makes_97 hl9 (by decide) rfl (fun sl9 hl9 => ?_)
          refine lv_aload_n hx hb dL_makes_99 rfl (lv_at hl9 2 rfl) ?_
          refine lv_iconst (v := 2) hx hb dL_makes_100 (by decide) ?_
          refine lv_dup2_11 hx hb dL_makes_101 rfl rfl ?_
          refine z_iald Z Mz9 0 (h0 := av 0) (n := 6) (f := ga) rfl (j := 2) (by decide) (by decide) dL_makes_102 ?_
          refine zn_top (y := nI (N 2)) (hg2) ?_
          refine lv_aload_n hx hb dL_makes_103 rfl (lv_at hl9 2 rfl) ?_
          refine lv_iconst (v := 2) hx hb dL_makes_104 (by decide) ?_
          refine z_iald Z Mz9 0 (h0 := av 0) (n := 6) (f := ga) rfl (j := 2) (by decide) (by decide) dL_makes_105 ?_
          refine zn_top (y := nI (N 2)) (hg2) ?_
          refine lv_iconst (v := 4) hx hb dL_makes_106 (by decide) ?_
          refine zn_icmp_ge (a := N 2) (b := 4) (tgt := 114) (by omega) (by decide) hx hb dL_makes_107 (by decide) (fun h => absurd h (by omega)) (fun _ => ?_)
          refine lv_iconst (v := 1) hx hb dL_makes_110 (by decide) ?_
          refine lv_goto (tgt := 115) hx hb dL_makes_111 (by decide) ?_
          refine zn_iadd (a := N 2) (b := 1) hx hb dL_makes_115 ?_
          refine z_iast Z Mz9 0 (h0 := av 0) (n := 6) (f := ga) rfl (j := 2) (x := nI ((N 2) + 1)) (by decide) (by decide) (ws' := lwR T av (upd ga 2 (nI ((N 2) + 1))) ma aa ca ta ++ iw J1 ad1 (hG ad1 T ea nof (Nd N) mst1 bst1 ρ1)) rfl dL_makes_116 (fun Hp9 lc9 Mz9 => ?_)
          refine lv_iload hx hb dL_makes_117 (lv_at hl9 0 rfl) ?_
          refine lv_aload_n hx hb dL_makes_119 rfl (lv_at hl9 2 rfl) ?_
          refine lv_iconst (v := 2) hx hb dL_makes_120 (by decide) ?_
          refine z_iald Z Mz9 0 (h0 := av 0) (n := 6) (f := upd ga 2 (nI ((N 2) + 1))) rfl (j := 2) (by decide) (by decide) dL_makes_121 ?_
          refine zn_top (y := nI (N 2 + 1)) (upd_same _ _ _) ?_
          refine lv_iconst (v := 1) hx hb dL_makes_122 (by decide) ?_
          refine zn_isub (a := N 2 + 1) (b := 1) (by omega) hx hb dL_makes_123 ?_
          refine zn_icmp_eq (a := N 2) (b := (N 2 + 1) - 1) (tgt := 141) (by omega) (by omega) hx hb dL_makes_124 (by decide) (fun _ => ?_) (fun h => absurd h (fun q => q (by omega)))
          refine lv_iconst (v := 1) hx hb dL_makes_141 (by decide) ?_
          refine lv_goto (tgt := 146) hx hb dL_makes_142 (by decide) ?_
          exact hret _ _ _ _ _ sl9 _ _ (⟨((J1, ad1, Nd N, mst1, bst1, ρ1), upd ga 2 (nI ((N 2) + 1)), ma, aa, ca, ta), ⟨(I_le (Nat.le_succ C) hI1), (GR_d hGr), hX0⟩⟩) Mz9 rfl (rfl) rfl (by show _ ≤ 320; omega) (by show _ ≤ 4480; omega) dL_makes_146
        ·
          have hw1 := hc_die_w (l := l) (D := D) (T := T) (ea := ea) (mi := mi) (sa := sa) (ad := ad) (J := J) (N := N) (mst := mst) (bst := bst) (ρ := ρ) hfl hI (by omega)
          refine z_callW (As := [.ref (ad 0)]) (rest := []) (zX_k ea mi sa) hX Z Mz9 (hw1 _) (vx_cwSW 1 hts gL_makes_L_die rfl rfl rfl (by decide +kernel) ⟨by decide, by decide⟩) rfl hl9.1 (Nat.le_of_ble_eq_true rfl) dL_makes_94 ⟨by show _ ≤ 320; omega, by show _ ≤ 4480; omega⟩ rfl (fun u9 Hp9 lc9 Mz9 => ?_)
          refine lv_istore (lv' := [(7, .int (-1000003)), (0, .ref (ad 0)), (1, .ref (av 0)), (2, .ref (av 1)), (3, .ref (av 2)), (4, .ref (av 4)), (5, .int (x9)), (6, .int (y9))]) hx hb dL_makes_97 hl9 (by decide) rfl (fun sl9 hl9 => ?_)
          refine lv_aload_n hx hb dL_makes_99 rfl (lv_at hl9 2 rfl) ?_
          refine lv_iconst (v := 2) hx hb dL_makes_100 (by decide) ?_
          refine lv_dup2_11 hx hb dL_makes_101 rfl rfl ?_
          refine z_iald Z Mz9 0 (h0 := av 0) (n := 6) (f := ga) rfl (j := 2) (by decide) (by decide) dL_makes_102 ?_
          refine zn_top (y := nI (N 2)) (hg2) ?_
          refine lv_aload_n hx hb dL_makes_103 rfl (lv_at hl9 2 rfl) ?_
          refine lv_iconst (v := 2) hx hb dL_makes_104 (by decide) ?_
          refine z_iald Z Mz9 0 (h0 := av 0) (n := 6) (f := ga) rfl (j := 2) (by decide) (by decide) dL_makes_105 ?_
          refine zn_top (y := nI (N 2)) (hg2) ?_
          refine lv_iconst (v := 4) hx hb dL_makes_106 (by decide) ?_
          refine zn_icmp_ge (a := N 2) (b := 4) (tgt := 114) (by omega) (by decide) hx hb dL_makes_107 (by decide) (fun _ => ?_) (fun h => absurd h (by omega))
          refine lv_iconst (v := 0) hx hb dL_makes_114 (by decide) ?_
          refine zn_iadd (a := N 2) (b := 0) hx hb dL_makes_115 ?_
          refine z_iast Z Mz9 0 (h0 := av 0) (n := 6) (f := ga) rfl (j := 2) (x := nI ((N 2) + 0)) (by decide) (by decide) (ws' := lwR T av (upd ga 2 (nI ((N 2) + 0))) ma aa ca ta ++ iw J ad (hG ad T ea nof N mst bst ρ)) rfl dL_makes_116 (fun Hp9 lc9 Mz9 => ?_)
          refine lv_iload hx hb dL_makes_117 (lv_at hl9 0 rfl) ?_
          refine lv_aload_n hx hb dL_makes_119 rfl (lv_at hl9 2 rfl) ?_
          refine lv_iconst (v := 2) hx hb dL_makes_120 (by decide) ?_
          refine z_iald Z Mz9 0 (h0 := av 0) (n := 6) (f := upd ga 2 (nI ((N 2) + 0))) rfl (j := 2) (by decide) (by decide) dL_makes_121 ?_
          refine zn_top (y := nI (N 2 + 0)) (upd_same _ _ _) ?_
          refine lv_iconst (v := 1) hx hb dL_makes_122 (by decide) ?_
          refine zn_isub (a := N 2 + 0) (b := 1) (by omega) hx hb dL_makes_123 ?_
          refine lv_icmp_eq (tgt := 141) hx hb dL_makes_124 (by decide) (fun h => absurd h (fun q => nn3 (by omega) q.symm)) (fun _ => ?_)
          refine lv_iload hx hb dL_makes_127 (lv_at hl9 0 rfl) ?_
          refine lv_ldc (v := (-1000003)) hx hb Z.1.2.2.2.1 (hts (.constant RL 28 (-1000003)) (by decide +kernel)) dL_makes_129 ?_
          refine lv_icmp_ne (tgt := 145) hx hb dL_makes_131 (by decide) (fun h => absurd h (by decide)) (fun _ => ?_)
          refine lv_aload_n hx hb dL_makes_134 rfl (lv_at hl9 2 rfl) ?_
          refine lv_iconst (v := 2) hx hb dL_makes_135 (by decide) ?_
          refine z_iald Z Mz9 0 (h0 := av 0) (n := 6) (f := upd ga 2 (nI ((N 2) + 0))) rfl (j := 2) (by decide) (by decide) dL_makes_136 ?_
          refine zn_top (y := nI (N 2 + 0)) (upd_same _ _ _) ?_
          refine lv_iconst (v := 4) hx hb dL_makes_137 (by decide) ?_
          refine zn_icmp_ne (a := N 2 + 0) (b := 4) (tgt := 145) (by omega) (by decide) hx hb dL_makes_138 (by decide) (fun h => absurd h (fun q => q (by omega))) (fun _ => ?_)
          refine lv_iconst (v := 1) hx hb dL_makes_141 (by decide) ?_
          refine lv_goto (tgt := 146) hx hb dL_makes_142 (by decide) ?_
          exact hret _ _ _ _ _ sl9 _ _ (⟨((J, ad, N, mst, bst, ρ), upd ga 2 (nI ((N 2) + 0)), ma, aa, ca, ta), ⟨(I_le (Nat.le_succ C) hI), (GR_2 hGr rfl), rfl⟩⟩) Mz9 rfl (rfl) rfl (by show _ ≤ 320; omega) (by show _ ≤ 4480; omega) dL_makes_146
    ·
      refine lv_iload hx hb dL_makes_15 (lv_at hl9 6 rfl) ?_
      refine lv_iconst (v := 4) hx hb dL_makes_17 (by decide) ?_
      obtain ⟨q5, b5, z5⟩ := ln_low2 l y9 4 (by decide)
      refine z_callSi (As := [.int (y9), .int 4]) (rest := []) Z.1 z5 (va_cwS 2 hts gL_makes_L_low rfl rfl rfl (by decide +kernel) ⟨by decide, by decide⟩) rfl hl9.1 (Nat.le_of_ble_eq_true rfl) dL_makes_18 ⟨by show _ ≤ 320; omega, by show _ ≤ 4480; omega⟩ rfl ?_
      refine lv_istore (lv' := [(7, .int (nI (q5))), (0, .ref (ad 0)), (1, .ref (av 0)), (2, .ref (av 1)), (3, .ref (av 2)), (4, .ref (av 4)), (5, .int (x9)), (6, .int (y9))]) hx hb dL_makes_21 hl9 (by decide) rfl (fun sl9 hl9 => ?_)
      refine lv_aload_n hx hb dL_makes_23 rfl (lv_at hl9 1 rfl) ?_
      refine lv_iload hx hb dL_makes_24 (lv_at hl9 0 rfl) ?_
      by_cases h4 : N 0 < 20
      ·
        refine z_callW (As := [.ref (ad 0), .int (nI (q5))]) (rest := []) (zX_k ea mi sa) hX Z Mz9 (hc_melt hI (j := q5) (by omega) h4 _) (vx_cwSW 2 hts gL_makes_L_melt rfl rfl rfl (by decide +kernel) ⟨by decide, by decide⟩) rfl hl9.1 (Nat.le_of_ble_eq_true rfl) dL_makes_26 ⟨by show _ ≤ 320; omega, by show _ ≤ 4480; omega⟩ rfl (fun u9 Hp9 lc9 Mz9 => ?_)
        obtain ⟨⟨J1, ad1, N1, mst1, bst1, ρ1⟩, hX0, hXN, hI1⟩ := u9
        have hXN : N1 = Nm N := hXN
        subst hXN
        have hX0 : ad1 0 = ad 0 := hX0
        have hI1 : Inv C J1 (Nm N) mst1 bst1 ρ1 aa ca := hI1
        have Mz9 : zM D A s.heap (lwR T av ga ma aa ca ta ++ iw J1 ad1 (hG ad1 T ea nof (Nm N) mst1 bst1 ρ1)) _ _ := Mz9
        refine lv_istore (lv' := [(8, .int (nI (N 0))), (7, .int (nI (q5))), (0, .ref (ad 0)), (1, .ref (av 0)), (2, .ref (av 1)), (3, .ref (av 2)), (4, .ref (av 4)), (5, .int (x9)), (6, .int (y9))]) hx hb dL_makes_29 hl9 (by decide) rfl (fun sl9 hl9 => ?_)
        refine lv_aload_n hx hb dL_makes_31 rfl (lv_at hl9 3 rfl) ?_
        refine lv_iconst (v := 0) hx hb dL_makes_32 (by decide) ?_
        refine z_iald Z Mz9 0 (h0 := av 0) (n := 6) (f := ga) rfl (j := 0) (by decide) (by decide) dL_makes_33 ?_
        refine zn_top (y := nI (N 0)) (hg0) ?_
        refine lv_bipush (v := 20) hx hb dL_makes_34 (by decide) ?_
        refine zn_icmp_ne (a := N 0) (b := 20) (tgt := 52) (by omega) (by decide) hx hb dL_makes_36 (by decide) (fun _ => ?_) (fun h => absurd h (fun q => absurd q (by omega)))
        refine lv_aload hx hb dL_makes_52 (lv_at hl9 6 rfl) ?_
        refine lv_aload_n hx hb dL_makes_54 rfl (lv_at hl9 3 rfl) ?_
        refine lv_iconst (v := 0) hx hb dL_makes_55 (by decide) ?_
        refine z_iald Z Mz9 0 (h0 := av 0) (n := 6) (f := ga) rfl (j := 0) (by decide) (by decide) dL_makes_56 ?_
        refine zn_top (y := nI (N 0)) (hg0) ?_
        refine lv_iload hx hb dL_makes_57 (lv_at hl9 1 rfl) ?_
        refine z_iast Z Mz9 4 (h0 := av 4) (n := 20) (f := ta) rfl (j := N 0) (x := nI (q5)) (by omega) (by decide) (ws' := lwR T av ga ma aa ca (upd ta (N 0) (nI (q5))) ++ iw J1 ad1 (hG ad1 T ea nof (Nm N) mst1 bst1 ρ1)) rfl dL_makes_59 (fun Hp9 lc9 Mz9 => ?_)
        refine lv_aload_n hx hb dL_makes_60 rfl (lv_at hl9 3 rfl) ?_
        refine lv_iconst (v := 0) hx hb dL_makes_61 (by decide) ?_
        refine lv_dup2_11 hx hb dL_makes_62 rfl rfl ?_
        refine z_iald Z Mz9 0 (h0 := av 0) (n := 6) (f := ga) rfl (j := 0) (by decide) (by decide) dL_makes_63 ?_
        refine zn_top (y := nI (N 0)) (hg0) ?_
        refine lv_iconst (v := 1) hx hb dL_makes_64 (by decide) ?_
        refine zn_iadd (a := N 0) (b := 1) hx hb dL_makes_65 ?_
        refine z_iast Z Mz9 0 (h0 := av 0) (n := 6) (f := ga) rfl (j := 0) (x := nI ((N 0) + 1)) (by decide) (by decide) (ws' := lwR T av (upd ga 0 (nI ((N 0) + 1))) ma aa ca (upd ta (N 0) (nI (q5))) ++ iw J1 ad1 (hG ad1 T ea nof (Nm N) mst1 bst1 ρ1)) rfl dL_makes_66 (fun Hp9 lc9 Mz9 => ?_)
        refine lv_iload hx hb dL_makes_67 (lv_at hl9 0 rfl) ?_
        refine lv_aload_n hx hb dL_makes_69 rfl (lv_at hl9 3 rfl) ?_
        refine lv_iconst (v := 0) hx hb dL_makes_70 (by decide) ?_
        refine z_iald Z Mz9 0 (h0 := av 0) (n := 6) (f := upd ga 0 (nI ((N 0) + 1))) rfl (j := 0) (by decide) (by decide) dL_makes_71 ?_
        refine zn_top (y := nI (N 0 + 1)) (upd_same _ _ _) ?_
        refine lv_iconst (v := 1) hx hb dL_makes_72 (by decide) ?_
        refine zn_isub (a := N 0 + 1) (b := 1) (by omega) hx hb dL_makes_73 ?_
        refine zn_icmp_ne (a := N 0) (b := (N 0 + 1) - 1) (tgt := 81) (by omega) (by omega) hx hb dL_makes_74 (by decide) (fun h => absurd h (fun q => q (by omega))) (fun _ => ?_)
        refine lv_iconst (v := 1) hx hb dL_makes_77 (by decide) ?_
        refine lv_goto (tgt := 82) hx hb dL_makes_78 (by decide) ?_
        exact hret _ _ _ _ _ sl9 _ _ (⟨((J1, ad1, Nm N, mst1, bst1, ρ1), upd ga 0 (nI ((N 0) + 1)), ma, aa, ca, upd ta (N 0) (nI (q5))), ⟨(I_le (Nat.le_succ C) hI1), (GR_m hGr), hX0⟩⟩) Mz9 rfl (rfl) rfl (by show _ ≤ 320; omega) (by show _ ≤ 4480; omega) dL_makes_82
      ·
        have hw1 := hc_melt_w (l := l) (D := D) (T := T) (ea := ea) (mi := mi) (sa := sa) (ad := ad) (J := J) (N := N) (mst := mst) (bst := bst) (ρ := ρ) hfl hI (j := q5) (by omega) (by omega)
        refine z_callW (As := [.ref (ad 0), .int (nI (q5))]) (rest := []) (zX_k ea mi sa) hX Z Mz9 (hw1 _) (vx_cwSW 2 hts gL_makes_L_melt rfl rfl rfl (by decide +kernel) ⟨by decide, by decide⟩) rfl hl9.1 (Nat.le_of_ble_eq_true rfl) dL_makes_26 ⟨by show _ ≤ 320; omega, by show _ ≤ 4480; omega⟩ rfl (fun u9 Hp9 lc9 Mz9 => ?_)
        refine lv_istore (lv' := [(8, .int (-1000003)), (7, .int (nI (q5))), (0, .ref (ad 0)), (1, .ref (av 0)), (2, .ref (av 1)), (3, .ref (av 2)), (4, .ref (av 4)), (5, .int (x9)), (6, .int (y9))]) hx hb dL_makes_29 hl9 (by decide) rfl (fun sl9 hl9 => ?_)
        refine lv_aload_n hx hb dL_makes_31 rfl (lv_at hl9 3 rfl) ?_
        refine lv_iconst (v := 0) hx hb dL_makes_32 (by decide) ?_
        refine z_iald Z Mz9 0 (h0 := av 0) (n := 6) (f := ga) rfl (j := 0) (by decide) (by decide) dL_makes_33 ?_
        refine zn_top (y := nI (N 0)) (hg0) ?_
        refine lv_bipush (v := 20) hx hb dL_makes_34 (by decide) ?_
        refine zn_icmp_ne (a := N 0) (b := 20) (tgt := 52) (by omega) (by decide) hx hb dL_makes_36 (by decide) (fun h => absurd h (fun q => q (by omega))) (fun _ => ?_)
        refine lv_iload hx hb dL_makes_39 (lv_at hl9 0 rfl) ?_
        refine lv_ldc (v := (-1000003)) hx hb Z.1.2.2.2.1 (hts (.constant RL 28 (-1000003)) (by decide +kernel)) dL_makes_41 ?_
        refine lv_icmp_ne (tgt := 50) hx hb dL_makes_43 (by decide) (fun h => absurd h (by decide)) (fun _ => ?_)
        refine lv_iconst (v := 1) hx hb dL_makes_46 (by decide) ?_
        refine lv_goto (tgt := 51) hx hb dL_makes_47 (by decide) ?_
        exact hret _ _ _ _ _ sl9 _ _ (⟨((J, ad, N, mst, bst, ρ), ga, ma, aa, ca, ta), ⟨(I_le (Nat.le_succ C) hI), hGr, rfl⟩⟩) Mz9 rfl (rfl) rfl (by show _ ≤ 320; omega) (by show _ ≤ 4480; omega) dL_makes_51
end LAW6
