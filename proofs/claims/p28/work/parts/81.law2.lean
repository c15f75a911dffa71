/-! ===== the law's own methods: heats, works ===== -/
theorem ln_low2 (l : Launch) (v : Int32) (n : Nat) (hn : 0 < n ∧ n < 2 ^ 31) : ∃ q : Nat, q < n ∧ ZS l yL_low wsL_low (zrm 0 0) [.int v, .int (nI n)] (nI q) := ⟨lo v n, lo_lt v hn.1, ln_low l v n hn⟩
abbrev YS : Type := PS × (Nat → Int32) × (Nat → Int32) × (Nat → Int32) × (Nat → Int32) × (Nat → Int32)
abbrev yW (T : Nat → ClassId) (ea : Nat) (av : Nat → Nat) (Y : YS) : va_W := lwR T av Y.2.1 Y.2.2.1 Y.2.2.2.1 Y.2.2.2.2.1 Y.2.2.2.2.2 ++ cW T ea Y.1
abbrev PIc (C o : Nat) (Y : YS) : Prop := Inv C Y.1.J Y.1.N Y.1.mst Y.1.bst Y.1.ρ Y.2.2.2.1 Y.2.2.2.2.1 ∧ GRc Y.1.N Y.2.1 ∧ Y.1.ad 0 = o
theorem nn3 {n : Nat} (h : n < 2 ^ 31) : ¬ nI n = -1000003 := fun e => nI_pos h (by rw [e]; decide)
theorem nn1 {n : Nat} (h : n < 2 ^ 31) : ¬ nI n = -1 := nm1 h
section LAW2
variable {l : Launch} {D : va_G} {T : Nat → ClassId} {ea mi : Nat} {sa : Nat → Nat}
variable {C : Nat} {ad : Nat → Nat} {J : List Nat} {N mst bst : Nat → Nat} {ρ : Nat → Nat → Int32} {ga ma aa ca ta : Nat → Int32} {av : Nat → Nat} {i : Nat}
set_option maxHeartbeats 4000000 in
set_option maxRecDepth 100000 in
theorem lm_heats (hfl : l.stackTraces = false) (hI : Inv C J N mst bst ρ aa ca) (hGr : GRc N ga) (hi : i < N 1) (y9 : Int32) : ZIH l yL_heats wsL_heats mR9 (zX ea mi sa) D T (S := {Y : YS // PIc (C + 1) (ad 0) Y}) (lwR T av ga ma aa ca ta ++ iw J ad (hG ad T ea nof N mst bst ρ)) (fun Y => yW T ea av Y.1) [.ref (ad 0), .ref (av 3), .int (nI (i)), .int (y9)] 1 320 4480 := by
  have hi12 : i < 12 := (I_liB hI hi).1
  refine z_inIHC (cc := cL_heats) (maxL := 6) (rt := .boolean) (by decide +kernel) rfl (Nat.le_of_ble_eq_true rfl) ?_
  intro p e s m args below meth c sl9 A Q Z hX Mz9 hl9 hret
  have Z : zC p s m args c cL_heats 6 RL wsL_heats D T A := Z
  have hx := Z.1.1
  have hb := Z.1.2.1
  have hts := Z.1.2.2.2.2
  have hl9 : lv_has sl9 6 [(0, .ref (ad 0)), (1, .ref (av 3)), (2, .int (nI (i))), (3, .int (y9))] := hl9
  refine lv_sipush (v := 200) hx hb dL_heats_0 (by decide) ?_
  refine lv_iload_n hx hb dL_heats_3 rfl (lv_at hl9 3 rfl) ?_
  refine lv_sipush (v := 1101) hx hb dL_heats_4 (by decide) ?_
  obtain ⟨q1, b1, z1⟩ := ln_low2 l y9 1101 (by decide)
  refine z_callSi (As := [.int (y9), .int 1101]) (rest := [.int 200]) Z.1 z1 (va_cwS 2 hts gL_heats_L_low rfl rfl rfl (by decide +kernel) ⟨by decide, by decide⟩) rfl hl9.1 (Nat.le_of_ble_eq_true rfl) dL_heats_7 ⟨by show _ ≤ 320; omega, by show _ ≤ 4480; omega⟩ rfl ?_
  refine zn_iadd (a := 200) (b := q1) hx hb dL_heats_10 ?_
  refine lv_istore (lv' := [(4, .int (nI (200 + q1))), (0, .ref (ad 0)), (1, .ref (av 3)), (2, .int (nI (i))), (3, .int (y9))]) hx hb dL_heats_11 hl9 (by decide) rfl (fun sl9 hl9 => ?_)
  refine lv_aload_n hx hb dL_heats_13 rfl (lv_at hl9 1 rfl) ?_
  refine lv_iload_n hx hb dL_heats_14 rfl (lv_at hl9 3 rfl) ?_
  refine lv_iload hx hb dL_heats_15 (lv_at hl9 0 rfl) ?_
  refine lv_iconst (v := 1) hx hb dL_heats_17 (by decide) ?_
  refine lv_iload_n hx hb dL_heats_18 rfl (lv_at hl9 4 rfl) ?_
  refine lv_bipush (v := 11) hx hb dL_heats_19 (by decide) ?_
  refine lv_ishr hx hb dL_heats_21 ?_
  refine lv_bipush (v := 40) hx hb dL_heats_22 (by decide) ?_
  obtain ⟨q2, b2, z2⟩ := ln_low2 l (y9 >>> (11 &&& 31)) 40 (by decide)
  refine z_callSi (As := [.int (y9 >>> (11 &&& 31)), .int 40]) (rest := [.int 1, .int (nI (200 + q1)), .int (nI (i)), .ref (ad 0)]) Z.1 z2 (va_cwS 2 hts gL_heats_L_low rfl rfl rfl (by decide +kernel) ⟨by decide, by decide⟩) rfl hl9.1 (Nat.le_of_ble_eq_true rfl) dL_heats_24 ⟨by show _ ≤ 320; omega, by show _ ≤ 4480; omega⟩ rfl ?_
  refine zn_iadd (a := 1) (b := q2) hx hb dL_heats_27 ?_
  rcases hc_heat (l := l) (D := D) (T := T) (ea := ea) (mi := mi) (sa := sa) hfl hI hi (fn := 200 + q1) (m9 := 1 + q2) (by omega) (by omega) (by omega) (by omega) with ⟨hw1, hc1⟩ | ⟨β1, α1, hw1, h14, hI1⟩
  ·
    refine z_callW (As := [.ref (ad 0), .int (nI (i)), .int (nI (200 + q1)), .int (nI (1 + q2))]) (rest := []) (zX_k ea mi sa) hX Z Mz9 (hw1 _) (vx_cwSW 4 hts gL_heats_L_heat rfl rfl rfl (by decide +kernel) ⟨by decide, by decide⟩) rfl hl9.1 (Nat.le_of_ble_eq_true rfl) dL_heats_28 ⟨by show _ ≤ 320; omega, by show _ ≤ 4480; omega⟩ rfl (fun u9 Hp9 lc9 Mz9 => ?_)
    refine lv_istore (lv' := [(5, .int (-1000003)), (4, .int (nI (200 + q1))), (0, .ref (ad 0)), (1, .ref (av 3)), (2, .int (nI (i))), (3, .int (y9))]) hx hb dL_heats_31 hl9 (by decide) rfl (fun sl9 hl9 => ?_)
    refine lv_iload hx hb dL_heats_33 (lv_at hl9 0 rfl) ?_
    refine lv_ldc (v := (-1000003)) hx hb Z.1.2.2.2.1 (hts (.constant RL 28 (-1000003)) (by decide +kernel)) dL_heats_35 ?_
    refine lv_icmp_ne (tgt := 52) hx hb dL_heats_37 (by decide) (fun h => absurd h (by decide)) (fun _ => ?_)
    refine lv_aload_n hx hb dL_heats_40 rfl (lv_at hl9 3 rfl) ?_
    refine lv_iload_n hx hb dL_heats_41 rfl (lv_at hl9 4 rfl) ?_
    refine z_iald Z Mz9 3 (h0 := av 3) (n := 12) (f := ca) rfl (j := i) (by omega) (by decide) dL_heats_42 ?_
    refine lv_if_le (tgt := 50) hx hb dL_heats_43 (by decide) (fun h => absurd h (fun q => absurd (Int32.lt_of_lt_of_le hc1 q) Int32.lt_irrefl)) (fun _ => ?_)
    refine lv_iconst (v := 1) hx hb dL_heats_46 (by decide) ?_
    refine lv_goto (tgt := 51) hx hb dL_heats_47 (by decide) ?_
    exact hret _ _ _ _ _ sl9 _ _ (⟨((J, ad, N, mst, bst, ρ), ga, ma, aa, ca, ta), ⟨(I_le (Nat.le_succ C) hI), hGr, rfl⟩⟩) Mz9 rfl (rfl) rfl (by show _ ≤ 320; omega) (by show _ ≤ 4480; omega) dL_heats_51
  ·
    obtain ⟨ρ1, hρ1⟩ : ∃ q, q = upB ρ i β1 α1 (ρ (102 + 3 * i)) := ⟨_, rfl⟩
    rw [← hρ1] at hw1 hI1
    have e1 : ρ1 (100 + 3 * i) = β1 := by rw [hρ1]; exact upB_b
    rw [← e1] at h14 hw1
    obtain ⟨-, -, -, ⟨co, o1, o2, o3⟩, -⟩ := I_B hI1 hi
    rw [o3] at hw1
    refine z_callW (As := [.ref (ad 0), .int (nI (i)), .int (nI (200 + q1)), .int (nI (1 + q2))]) (rest := []) (zX_k ea mi sa) hX Z Mz9 (hw1 _) (vx_cwSW 4 hts gL_heats_L_heat rfl rfl rfl (by decide +kernel) ⟨by decide, by decide⟩) rfl hl9.1 (Nat.le_of_ble_eq_true rfl) dL_heats_28 ⟨by show _ ≤ 320; omega, by show _ ≤ 4480; omega⟩ rfl (fun u9 Hp9 lc9 Mz9 => ?_)
    refine lv_istore (lv' := [(5, .int (nI (co))), (4, .int (nI (200 + q1))), (0, .ref (ad 0)), (1, .ref (av 3)), (2, .int (nI (i))), (3, .int (y9))]) hx hb dL_heats_31 hl9 (by decide) rfl (fun sl9 hl9 => ?_)
    refine lv_iload hx hb dL_heats_33 (lv_at hl9 0 rfl) ?_
    refine lv_ldc (v := (-1000003)) hx hb Z.1.2.2.2.1 (hts (.constant RL 28 (-1000003)) (by decide +kernel)) dL_heats_35 ?_
    refine lv_icmp_ne (tgt := 52) hx hb dL_heats_37 (by decide) (fun _ => ?_) (fun h => absurd h (nn3 (by omega)))
    refine lv_aload_n hx hb dL_heats_52 rfl (lv_at hl9 3 rfl) ?_
    refine lv_iload_n hx hb dL_heats_53 rfl (lv_at hl9 4 rfl) ?_
    refine lv_dup2_11 hx hb dL_heats_54 rfl rfl ?_
    refine z_iald Z Mz9 3 (h0 := av 3) (n := 12) (f := ca) rfl (j := i) (by omega) (by decide) dL_heats_55 ?_
    refine lv_iconst (v := 1) hx hb dL_heats_56 (by decide) ?_
    refine lv_iadd hx hb dL_heats_57 ?_
    refine z_iast Z Mz9 3 (h0 := av 3) (n := 12) (f := ca) rfl (j := i) (x := (ca i) + 1) (by omega) (by decide) (ws' := lwR T av ga ma aa (upd ca i ((ca i) + 1)) ta ++ iw J ad (hG ad T ea nof N mst bst ρ1)) rfl dL_heats_58 (fun Hp9 lc9 Mz9 => ?_)
    refine lv_iload hx hb dL_heats_59 (lv_at hl9 0 rfl) ?_
    refine lv_aload_n hx hb dL_heats_61 rfl (lv_at hl9 2 rfl) ?_
    refine lv_iload_n hx hb dL_heats_62 rfl (lv_at hl9 4 rfl) ?_
    refine lv_iconst (v := 1) hx hb dL_heats_63 (by decide) ?_
    refine z_callW (As := [.ref (ad 0), .int (nI (i)), .int 1]) (rest := [.int (nI (co))]) (zX_k ea mi sa) hX Z Mz9 (hc_bIs1 hI1 hi _) (vx_cwSW 3 hts gL_heats_L_billetIs rfl rfl rfl (by decide +kernel) ⟨by decide, by decide⟩) rfl hl9.1 (Nat.le_of_ble_eq_true rfl) dL_heats_64 ⟨by show _ ≤ 320; omega, by show _ ≤ 4480; omega⟩ rfl (fun u9 Hp9 lc9 Mz9 => ?_)
    refine zn_top (y := nI (co)) (o3) ?_
    refine zn_icmp_ne (a := co) (b := co) (tgt := 117) (by omega) (by omega) hx hb dL_heats_67 (by decide) (fun h => absurd h (fun q => q rfl)) (fun _ => ?_)
    refine lv_aload_n hx hb dL_heats_70 rfl (lv_at hl9 2 rfl) ?_
    refine lv_iload_n hx hb dL_heats_71 rfl (lv_at hl9 4 rfl) ?_
    refine lv_bipush (v := 8) hx hb dL_heats_72 (by decide) ?_
    refine z_callW (As := [.ref (ad 0), .int (nI (i)), .int 8]) (rest := []) (zX_k ea mi sa) hX Z Mz9 (hc_bIs8 hI1 hi _) (vx_cwSW 3 hts gL_heats_L_billetIs rfl rfl rfl (by decide +kernel) ⟨by decide, by decide⟩) rfl hl9.1 (Nat.le_of_ble_eq_true rfl) dL_heats_74 ⟨by show _ ≤ 320; omega, by show _ ≤ 4480; omega⟩ rfl (fun u9 Hp9 lc9 Mz9 => ?_)
    refine zn_top (y := (-1)) (h14) ?_
    refine lv_iconst (v := (-1)) hx hb dL_heats_77 (by decide) ?_
    refine lv_icmp_ne (tgt := 117) hx hb dL_heats_78 (by decide) (fun h => absurd h (by decide)) (fun _ => ?_)
    refine lv_aload_n hx hb dL_heats_81 rfl (lv_at hl9 2 rfl) ?_
    refine lv_iload_n hx hb dL_heats_82 rfl (lv_at hl9 4 rfl) ?_
    refine lv_iconst (v := 0) hx hb dL_heats_83 (by decide) ?_
    refine z_callW (As := [.ref (ad 0), .int (nI (i)), .int 0]) (rest := []) (zX_k ea mi sa) hX Z Mz9 (hc_hard hI1 hi (j := 0) (by decide) _) (vx_cwSW 3 hts gL_heats_L_hardness rfl rfl rfl (by decide +kernel) ⟨by decide, by decide⟩) rfl hl9.1 (Nat.le_of_ble_eq_true rfl) dL_heats_84 ⟨by show _ ≤ 320; omega, by show _ ≤ 4480; omega⟩ rfl (fun u9 Hp9 lc9 Mz9 => ?_)
    refine zn_top (y := 0) (if_pos h14) ?_
    refine lv_if_ne (tgt := 117) hx hb dL_heats_87 (by decide) (fun h => absurd h (by decide)) (fun _ => ?_)
    refine lv_aload_n hx hb dL_heats_90 rfl (lv_at hl9 2 rfl) ?_
    refine lv_iload_n hx hb dL_heats_91 rfl (lv_at hl9 4 rfl) ?_
    refine lv_sipush (v := 200) hx hb dL_heats_92 (by decide) ?_
    refine z_callW (As := [.ref (ad 0), .int (nI (i)), .int 200]) (rest := []) (zX_k ea mi sa) hX Z Mz9 (hc_temper_n hfl hI1 hi (w := 200) (by decide) (by decide) h14 _) (vx_cwSW 3 hts gL_heats_L_temper rfl rfl rfl (by decide +kernel) ⟨by decide, by decide⟩) rfl hl9.1 (Nat.le_of_ble_eq_true rfl) dL_heats_95 ⟨by show _ ≤ 320; omega, by show _ ≤ 4480; omega⟩ rfl (fun u9 Hp9 lc9 Mz9 => ?_)
    refine lv_ldc (v := (-1000003)) hx hb Z.1.2.2.2.1 (hts (.constant RL 28 (-1000003)) (by decide +kernel)) dL_heats_98 ?_
    refine lv_icmp_ne (tgt := 117) hx hb dL_heats_100 (by decide) (fun h => absurd h (by decide)) (fun _ => ?_)
    refine lv_aload_n hx hb dL_heats_103 rfl (lv_at hl9 2 rfl) ?_
    refine lv_iload_n hx hb dL_heats_104 rfl (lv_at hl9 4 rfl) ?_
    refine z_callW (As := [.ref (ad 0), .int (nI (i))]) (rest := []) (zX_k ea mi sa) hX Z Mz9 (hc_test_n hfl hI1 hi h14 _) (vx_cwSW 2 hts gL_heats_L_test rfl rfl rfl (by decide +kernel) ⟨by decide, by decide⟩) rfl hl9.1 (Nat.le_of_ble_eq_true rfl) dL_heats_105 ⟨by show _ ≤ 320; omega, by show _ ≤ 4480; omega⟩ rfl (fun u9 Hp9 lc9 Mz9 => ?_)
    refine lv_ldc (v := (-1000003)) hx hb Z.1.2.2.2.1 (hts (.constant RL 28 (-1000003)) (by decide +kernel)) dL_heats_108 ?_
    refine lv_icmp_ne (tgt := 117) hx hb dL_heats_110 (by decide) (fun h => absurd h (by decide)) (fun _ => ?_)
    refine lv_iconst (v := 1) hx hb dL_heats_113 (by decide) ?_
    refine lv_goto (tgt := 118) hx hb dL_heats_114 (by decide) ?_
    exact hret _ _ _ _ _ sl9 _ _ (⟨((J, ad, N, mst, bst, ρ1), ga, ma, aa, upd ca i ((ca i) + 1), ta), ⟨(I_le (Nat.le_succ C) hI1), hGr, rfl⟩⟩) Mz9 rfl (rfl) rfl (by show _ ≤ 320; omega) (by show _ ≤ 4480; omega) dL_heats_118
set_option maxHeartbeats 4000000 in
set_option maxRecDepth 100000 in
theorem lm_works (hfl : l.stackTraces = false) (hI : Inv C J N mst bst ρ aa ca) (hGr : GRc N ga) (hi : i < N 1) (x9 y9 : Int32) : ZIH l yL_works wsL_works mR9 (zX ea mi sa) D T (S := {Y : YS // PIc (C + 1) (ad 0) Y}) (lwR T av ga ma aa ca ta ++ iw J ad (hG ad T ea nof N mst bst ρ)) (fun Y => yW T ea av Y.1) [.ref (ad 0), .ref (av 0), .int (nI (i)), .int (x9), .int (y9)] 1 320 4480 := by
  have hi12 : i < 12 := (I_liB hI hi).1
  have hn2 := hI.1.2.2.2.2
  obtain ⟨hg0, hg1, hg2, hg3, hg4⟩ := id hGr
  obtain ⟨-, ⟨Aa, A1, A2, A3, v, x, y, z, v1, v2, v3, v4, v5⟩, -, ⟨co, o1, o2, o3⟩, -, -, -, hcr, -⟩ := I_B hI hi
  have hvo := vS_VO v1
  have hcr9 : (if ρ (100 + 3 * i) 12 = 0 then (0 : Int32) else 1) = ρ (100 + 3 * i) 12 := by
    rcases hcr with h | h
    · rw [h]; rfl
    · rw [h]; rfl
  have hc8 : ¬ co < 700 → ¬ ρ (100 + 3 * i) 8 < 700 := fun h q => h ((nI_ltI (b := 700) (by omega) (by decide)).mp (by rw [← o3]; exact q))
  have hc7 : co < 700 → ρ (100 + 3 * i) 8 < 700 := fun h => by rw [o3]; exact (nI_ltI (b := 700) (by omega) (by decide)).mpr h
  refine z_inIHC (cc := cL_works) (maxL := 13) (rt := .boolean) (by decide +kernel) rfl (Nat.le_of_ble_eq_true rfl) ?_
  intro p e s m args below meth c sl9 A Q Z hX Mz9 hl9 hret
  have Z : zC p s m args c cL_works 13 RL wsL_works D T A := Z
  have hx := Z.1.1
  have hb := Z.1.2.1
  have hts := Z.1.2.2.2.2
  have hl9 : lv_has sl9 13 [(0, .ref (ad 0)), (1, .ref (av 0)), (2, .int (nI (i))), (3, .int (x9)), (4, .int (y9))] := hl9
  refine lv_iload_n hx hb dL_works_0 rfl (lv_at hl9 3 rfl) ?_
  refine lv_iconst (v := 4) hx hb dL_works_1 (by decide) ?_
  obtain ⟨q1, b1, z1⟩ := ln_low2 l x9 4 (by decide)
  refine z_callSi (As := [.int (x9), .int 4]) (rest := []) Z.1 z1 (va_cwS 2 hts gL_works_L_low rfl rfl rfl (by decide +kernel) ⟨by decide, by decide⟩) rfl hl9.1 (Nat.le_of_ble_eq_true rfl) dL_works_2 ⟨by show _ ≤ 320; omega, by show _ ≤ 4480; omega⟩ rfl ?_
  refine lv_istore (lv' := [(5, .int (nI (q1))), (0, .ref (ad 0)), (1, .ref (av 0)), (2, .int (nI (i))), (3, .int (x9)), (4, .int (y9))]) hx hb dL_works_5 hl9 (by decide) rfl (fun sl9 hl9 => ?_)
  refine lv_iload hx hb dL_works_7 (lv_at hl9 5 rfl) ?_
  refine lv_bipush (v := 8) hx hb dL_works_9 (by decide) ?_
  obtain ⟨q2, b2, z2⟩ := ln_low2 l y9 8 (by decide)
  refine z_callSi (As := [.int (y9), .int 8]) (rest := []) Z.1 z2 (va_cwS 2 hts gL_works_L_low rfl rfl rfl (by decide +kernel) ⟨by decide, by decide⟩) rfl hl9.1 (Nat.le_of_ble_eq_true rfl) dL_works_11 ⟨by show _ ≤ 320; omega, by show _ ≤ 4480; omega⟩ rfl ?_
  refine lv_istore (lv' := [(6, .int (nI (q2))), (5, .int (nI (q1))), (0, .ref (ad 0)), (1, .ref (av 0)), (2, .int (nI (i))), (3, .int (x9)), (4, .int (y9))]) hx hb dL_works_14 hl9 (by decide) rfl (fun sl9 hl9 => ?_)
  refine lv_aload_n hx hb dL_works_16 rfl (lv_at hl9 2 rfl) ?_
  refine lv_iload_n hx hb dL_works_17 rfl (lv_at hl9 4 rfl) ?_
  refine lv_iconst (v := 2) hx hb dL_works_18 (by decide) ?_
  refine z_callW (As := [.ref (ad 0), .int (nI (i)), .int 2]) (rest := []) (zX_k ea mi sa) hX Z Mz9 (hc_bIs2 hI hi _) (vx_cwSW 3 hts gL_works_L_billetIs rfl rfl rfl (by decide +kernel) ⟨by decide, by decide⟩) rfl hl9.1 (Nat.le_of_ble_eq_true rfl) dL_works_19 ⟨by show _ ≤ 320; omega, by show _ ≤ 4480; omega⟩ rfl (fun u9 Hp9 lc9 Mz9 => ?_)
  refine zn_top (y := nI (v)) (hvo) ?_
  refine lv_istore (lv' := [(7, .int (nI (v))), (6, .int (nI (q2))), (5, .int (nI (q1))), (0, .ref (ad 0)), (1, .ref (av 0)), (2, .int (nI (i))), (3, .int (x9)), (4, .int (y9))]) hx hb dL_works_22 hl9 (by decide) rfl (fun sl9 hl9 => ?_)
  refine lv_aload_n hx hb dL_works_24 rfl (lv_at hl9 3 rfl) ?_
  refine lv_iload_n hx hb dL_works_25 rfl (lv_at hl9 5 rfl) ?_
  refine lv_bipush (v := 6) hx hb dL_works_26 (by decide) ?_
  refine z_callW (As := [.ref (ad 0), .int (nI (i)), .int 6]) (rest := []) (zX_k ea mi sa) hX Z Mz9 (hc_bIs6 hI hi _) (vx_cwSW 3 hts gL_works_L_billetIs rfl rfl rfl (by decide +kernel) ⟨by decide, by decide⟩) rfl hl9.1 (Nat.le_of_ble_eq_true rfl) dL_works_28 ⟨by show _ ≤ 320; omega, by show _ ≤ 4480; omega⟩ rfl (fun u9 Hp9 lc9 Mz9 => ?_)
  refine zn_top (y := ρ (100 + 3 * i) 12) (hcr9) ?_
  refine lv_istore (lv' := [(8, .int (ρ (100 + 3 * i) 12)), (7, .int (nI (v))), (6, .int (nI (q2))), (5, .int (nI (q1))), (0, .ref (ad 0)), (1, .ref (av 0)), (2, .int (nI (i))), (3, .int (x9)), (4, .int (y9))]) hx hb dL_works_31 hl9 (by decide) rfl (fun sl9 hl9 => ?_)
  refine lv_aload_n hx hb dL_works_33 rfl (lv_at hl9 4 rfl) ?_
  refine lv_iload_n hx hb dL_works_34 rfl (lv_at hl9 6 rfl) ?_
  refine lv_iconst (v := 1) hx hb dL_works_35 (by decide) ?_
  refine z_callW (As := [.ref (ad 0), .int (nI (i)), .int 1]) (rest := []) (zX_k ea mi sa) hX Z Mz9 (hc_bIs1 hI hi _) (vx_cwSW 3 hts gL_works_L_billetIs rfl rfl rfl (by decide +kernel) ⟨by decide, by decide⟩) rfl hl9.1 (Nat.le_of_ble_eq_true rfl) dL_works_36 ⟨by show _ ≤ 320; omega, by show _ ≤ 4480; omega⟩ rfl (fun u9 Hp9 lc9 Mz9 => ?_)
  refine zn_top (y := nI (co)) (o3) ?_
  refine lv_istore (lv' := [(9, .int (nI (co))), (8, .int (ρ (100 + 3 * i) 12)), (7, .int (nI (v))), (6, .int (nI (q2))), (5, .int (nI (q1))), (0, .ref (ad 0)), (1, .ref (av 0)), (2, .int (nI (i))), (3, .int (x9)), (4, .int (y9))]) hx hb dL_works_39 hl9 (by decide) rfl (fun sl9 hl9 => ?_)
  refine lv_iload hx hb dL_works_41 (lv_at hl9 4 rfl) ?_
  refine zn_if_ne (a := q1) (tgt := 184) (by omega) hx hb dL_works_43 (by decide) (fun c_1 => ?_) (fun c_1 => ?_)
  ·
    refine lv_iload hx hb dL_works_184 (lv_at hl9 4 rfl) ?_
    refine lv_iconst (v := 1) hx hb dL_works_186 (by decide) ?_
    refine zn_icmp_ne (a := q1) (b := 1) (tgt := 257) (by omega) (by decide) hx hb dL_works_187 (by decide) (fun c_2 => ?_) (fun c_2 => ?_)
    ·
      refine lv_iload hx hb dL_works_257 (lv_at hl9 4 rfl) ?_
      refine lv_iconst (v := 2) hx hb dL_works_259 (by decide) ?_
      refine zn_icmp_ne (a := q1) (b := 2) (tgt := 346) (by omega) (by decide) hx hb dL_works_260 (by decide) (fun c_3 => ?_) (fun c_3 => ?_)
      ·
        refine lv_aload_n hx hb dL_works_346 rfl (lv_at hl9 6 rfl) ?_
        refine lv_iconst (v := 2) hx hb dL_works_347 (by decide) ?_
        refine z_iald Z Mz9 0 (h0 := av 0) (n := 6) (f := ga) rfl (j := 2) (by decide) (by decide) dL_works_348 ?_
        refine zn_top (y := nI (N 2)) (hg2) ?_
        refine zn_if_ne (a := N 2) (tgt := 370) (by omega) hx hb dL_works_349 (by decide) (fun c_4 => ?_) (fun c_4 => ?_)
        ·
          refine lv_iload hx hb dL_works_370 (lv_at hl9 9 rfl) ?_
          refine lv_aload_n hx hb dL_works_372 rfl (lv_at hl9 6 rfl) ?_
          refine lv_iconst (v := 2) hx hb dL_works_373 (by decide) ?_
          refine z_iald Z Mz9 0 (h0 := av 0) (n := 6) (f := ga) rfl (j := 2) (by decide) (by decide) dL_works_374 ?_
          refine zn_top (y := nI (N 2)) (hg2) ?_
          obtain ⟨q3, b3, z3⟩ := ln_low2 l y9 (N 2) (by omega)
          refine z_callSi (As := [.int (y9), .int (nI (N 2))]) (rest := []) Z.1 z3 (va_cwS 2 hts gL_works_L_low rfl rfl rfl (by decide +kernel) ⟨by decide, by decide⟩) rfl hl9.1 (Nat.le_of_ble_eq_true rfl) dL_works_375 ⟨by show _ ≤ 320; omega, by show _ ≤ 4480; omega⟩ rfl ?_
          refine lv_istore (lv' := [(10, .int (nI (q3))), (9, .int (nI (co))), (8, .int (ρ (100 + 3 * i) 12)), (7, .int (nI (v))), (6, .int (nI (q2))), (5, .int (nI (q1))), (0, .ref (ad 0)), (1, .ref (av 0)), (2, .int (nI (i))), (3, .int (x9)), (4, .int (y9))]) hx hb dL_works_378 hl9 (by decide) rfl (fun sl9 hl9 => ?_)
          refine lv_aload_n hx hb dL_works_380 rfl (lv_at hl9 6 rfl) ?_
          refine lv_iload_n hx hb dL_works_381 rfl (lv_at hl9 8 rfl) ?_
          refine lv_iload hx hb dL_works_382 (lv_at hl9 0 rfl) ?_
          refine lv_iconst (v := 1) hx hb dL_works_384 (by decide) ?_
          refine lv_iload hx hb dL_works_385 (lv_at hl9 10 rfl) ?_
          refine lv_iconst (v := 3) hx hb dL_works_387 (by decide) ?_
          refine lv_ishr hx hb dL_works_388 ?_
          refine lv_bipush (v := 50) hx hb dL_works_389 (by decide) ?_
          obtain ⟨q4, b4, z4⟩ := ln_low2 l (y9 >>> (3 &&& 31)) 50 (by decide)
          refine z_callSi (As := [.int (y9 >>> (3 &&& 31)), .int 50]) (rest := [.int 1, .int (nI (q3)), .int (nI (i)), .ref (ad 0)]) Z.1 z4 (va_cwS 2 hts gL_works_L_low rfl rfl rfl (by decide +kernel) ⟨by decide, by decide⟩) rfl hl9.1 (Nat.le_of_ble_eq_true rfl) dL_works_391 ⟨by show _ ≤ 320; omega, by show _ ≤ 4480; omega⟩ rfl ?_
          refine zn_iadd (a := 1) (b := q4) hx hb dL_works_394 ?_
          have hdN : q3 < N 2 := by omega
          obtain ⟨lf, lf0, lf1, lf2⟩ := (I_D hI hdN).1
          by_cases qb : ρ (100 + 3 * i) 12 = 0 ∧ 0 < lf
          · obtain ⟨q12, ql⟩ := qb
            have hlf : 0 < ρ (200 + 2 * q3) 0 := by rw [lf2]; exact (nI_ltI (a := 0) (by decide) (by omega)).mpr ql
            by_cases q7 : co < 700
            ·
              obtain ⟨ρ1, hw1, e12, e2, hI1⟩ := hc_press_k (l := l) (D := D) (T := T) (ea := ea) (mi := mi) (sa := sa) hI hi hdN (en := 1 + q4) (by omega) (by omega) q12 hlf (hc7 q7)
              have e6 : (if ρ1 (100 + 3 * i) 12 = 0 then (0 : Int32) else 1) = 1 := by rw [e12]; rfl
              have e9 : VO (ρ1 (101 + 3 * i)) 0 = nI v := by rw [e2]; exact hvo
              refine z_callW (As := [.ref (ad 0), .int (nI (i)), .int (nI (q3)), .int (nI (1 + q4))]) (rest := []) (zX_k ea mi sa) hX Z Mz9 (hw1 _) (vx_cwSW 4 hts gL_works_L_press rfl rfl rfl (by decide +kernel) ⟨by decide, by decide⟩) rfl hl9.1 (Nat.le_of_ble_eq_true rfl) dL_works_395 ⟨by show _ ≤ 320; omega, by show _ ≤ 4480; omega⟩ rfl (fun u9 Hp9 lc9 Mz9 => ?_)
              refine lv_istore (lv' := [(11, .int (-1)), (10, .int (nI (q3))), (9, .int (nI (co))), (8, .int (ρ (100 + 3 * i) 12)), (7, .int (nI (v))), (6, .int (nI (q2))), (5, .int (nI (q1))), (0, .ref (ad 0)), (1, .ref (av 0)), (2, .int (nI (i))), (3, .int (x9)), (4, .int (y9))]) hx hb dL_works_398 hl9 (by decide) rfl (fun sl9 hl9 => ?_)
              refine lv_iload hx hb dL_works_400 (lv_at hl9 0 rfl) ?_
              refine lv_if_ge (tgt := 472) hx hb dL_works_402 (by decide) (fun h => absurd h (by decide)) (fun _ => ?_)
              refine lv_iload hx hb dL_works_405 (lv_at hl9 0 rfl) ?_
              refine lv_iconst (v := (-1)) hx hb dL_works_407 (by decide) ?_
              refine lv_icmp_ne (tgt := 433) hx hb dL_works_408 (by decide) (fun h => absurd h (by decide)) (fun _ => ?_)
              refine lv_iload hx hb dL_works_411 (lv_at hl9 2 rfl) ?_
              refine lv_sipush (v := 700) hx hb dL_works_413 (by decide) ?_
              refine zn_icmp_ge (a := co) (b := 700) (tgt := 470) (by omega) (by decide) hx hb dL_works_416 (by decide) (fun h => absurd h (by omega)) (fun _ => ?_)
              refine lv_aload_n hx hb dL_works_419 rfl (lv_at hl9 7 rfl) ?_
              refine lv_iload_n hx hb dL_works_420 rfl (lv_at hl9 9 rfl) ?_
              refine lv_bipush (v := 6) hx hb dL_works_421 (by decide) ?_
              refine z_callW (As := [.ref (ad 0), .int (nI (i)), .int 6]) (rest := []) (zX_k ea mi sa) hX Z Mz9 (hc_bIs6 hI1 hi _) (vx_cwSW 3 hts gL_works_L_billetIs rfl rfl rfl (by decide +kernel) ⟨by decide, by decide⟩) rfl hl9.1 (Nat.le_of_ble_eq_true rfl) dL_works_423 ⟨by show _ ≤ 320; omega, by show _ ≤ 4480; omega⟩ rfl (fun u9 Hp9 lc9 Mz9 => ?_)
              refine zn_top (y := 1) (e6) ?_
              refine lv_iconst (v := 1) hx hb dL_works_426 (by decide) ?_
              refine lv_icmp_ne (tgt := 470) hx hb dL_works_427 (by decide) (fun h => absurd h (by decide)) (fun _ => ?_)
              refine lv_goto (tgt := 455) hx hb dL_works_430 (by decide) ?_
              refine lv_aload_n hx hb dL_works_455 rfl (lv_at hl9 7 rfl) ?_
              refine lv_iload_n hx hb dL_works_456 rfl (lv_at hl9 9 rfl) ?_
              refine lv_iconst (v := 2) hx hb dL_works_457 (by decide) ?_
              refine z_callW (As := [.ref (ad 0), .int (nI (i)), .int 2]) (rest := []) (zX_k ea mi sa) hX Z Mz9 (hc_bIs2 hI1 hi _) (vx_cwSW 3 hts gL_works_L_billetIs rfl rfl rfl (by decide +kernel) ⟨by decide, by decide⟩) rfl hl9.1 (Nat.le_of_ble_eq_true rfl) dL_works_458 ⟨by show _ ≤ 320; omega, by show _ ≤ 4480; omega⟩ rfl (fun u9 Hp9 lc9 Mz9 => ?_)
              refine zn_top (y := nI (v)) (e9) ?_
              refine lv_iload hx hb dL_works_461 (lv_at hl9 4 rfl) ?_
              refine zn_icmp_ne (a := v) (b := v) (tgt := 470) (by omega) (by omega) hx hb dL_works_463 (by decide) (fun h => absurd h (fun q => q rfl)) (fun _ => ?_)
              refine lv_iconst (v := 1) hx hb dL_works_466 (by decide) ?_
              refine lv_goto (tgt := 471) hx hb dL_works_467 (by decide) ?_
              exact hret _ _ _ _ _ sl9 _ _ (⟨((J, ad, N, mst, bst, ρ1), ga, ma, aa, ca, ta), ⟨(I_le (Nat.le_succ C) hI1), hGr, rfl⟩⟩) Mz9 rfl (rfl) rfl (by show _ ≤ 320; omega) (by show _ ≤ 4480; omega) dL_works_471
            ·
              obtain ⟨ρ1, t, lf8, v9, v8, hw1, t8, l8, l9, w9, e9, vb, vle, veq, hI1⟩ := hc_press_o (l := l) (D := D) (T := T) (ea := ea) (mi := mi) (sa := sa) hI hi hdN (en := 1 + q4) (by omega) (by omega) q12 hlf (hc8 q7)
              have hv9 : v9 = v := (nI_eq (by omega) (by omega)).mp (w9.symm.trans hvo)
              rw [hv9] at vb vle veq
              refine z_callW (As := [.ref (ad 0), .int (nI (i)), .int (nI (q3)), .int (nI (1 + q4))]) (rest := []) (zX_k ea mi sa) hX Z Mz9 (hw1 _) (vx_cwSW 4 hts gL_works_L_press rfl rfl rfl (by decide +kernel) ⟨by decide, by decide⟩) rfl hl9.1 (Nat.le_of_ble_eq_true rfl) dL_works_395 ⟨by show _ ≤ 320; omega, by show _ ≤ 4480; omega⟩ rfl (fun u9 Hp9 lc9 Mz9 => ?_)
              refine lv_istore (lv' := [(11, .int (nI (t))), (10, .int (nI (q3))), (9, .int (nI (co))), (8, .int (ρ (100 + 3 * i) 12)), (7, .int (nI (v))), (6, .int (nI (q2))), (5, .int (nI (q1))), (0, .ref (ad 0)), (1, .ref (av 0)), (2, .int (nI (i))), (3, .int (x9)), (4, .int (y9))]) hx hb dL_works_398 hl9 (by decide) rfl (fun sl9 hl9 => ?_)
              refine lv_iload hx hb dL_works_400 (lv_at hl9 0 rfl) ?_
              refine lv_if_ge (tgt := 472) hx hb dL_works_402 (by decide) (fun _ => ?_) (fun h => absurd h (fun q => q ((nI_leI (a := 0) (by decide) (by omega)).mpr (Nat.zero_le _))))
              refine lv_aload_n hx hb dL_works_472 rfl (lv_at hl9 7 rfl) ?_
              refine lv_iload hx hb dL_works_473 (lv_at hl9 1 rfl) ?_
              obtain ⟨hw3, hI3⟩ := hc_sink (l := l) (D := D) (T := T) (ea := ea) (mi := mi) (sa := sa) hI1 (d := q3) hdN
              rw [l8] at hw3
              obtain ⟨ρ3, hρ3⟩ : ∃ q, q = upR ρ1 (200 + 2 * q3) (fun _ => 100) := ⟨_, rfl⟩
              rw [← hρ3] at hw3 hI3
              have e33 : ρ3 (101 + 3 * i) = ρ1 (101 + 3 * i) := by rw [hρ3]; exact upR_ne _ _ (by omega)
              refine z_callW (As := [.ref (ad 0), .int (nI (q3))]) (rest := []) (zX_k ea mi sa) hX Z Mz9 (hw3 _) (vx_cwSW 2 hts gL_works_L_sink rfl rfl rfl (by decide +kernel) ⟨by decide, by decide⟩) rfl hl9.1 (Nat.le_of_ble_eq_true rfl) dL_works_475 ⟨by show _ ≤ 320; omega, by show _ ≤ 4480; omega⟩ rfl (fun u9 Hp9 lc9 Mz9 => ?_)
              refine lv_istore (lv' := [(12, .int (nI (lf8))), (11, .int (nI (t))), (10, .int (nI (q3))), (9, .int (nI (co))), (8, .int (ρ (100 + 3 * i) 12)), (7, .int (nI (v))), (6, .int (nI (q2))), (5, .int (nI (q1))), (0, .ref (ad 0)), (1, .ref (av 0)), (2, .int (nI (i))), (3, .int (x9)), (4, .int (y9))]) hx hb dL_works_478 hl9 (by decide) rfl (fun sl9 hl9 => ?_)
              refine lv_iload hx hb dL_works_480 (lv_at hl9 4 rfl) ?_
              refine lv_if_ne (tgt := 546) hx hb dL_works_482 (by decide) (fun h => absurd h (fun q => q q12)) (fun _ => ?_)
              refine lv_iload hx hb dL_works_485 (lv_at hl9 3 rfl) ?_
              refine lv_sipush (v := 700) hx hb dL_works_487 (by decide) ?_
              refine zn_icmp_lt (a := co) (b := 700) (tgt := 546) (by omega) (by decide) hx hb dL_works_490 (by decide) (fun h => absurd h (by omega)) (fun _ => ?_)
              refine lv_iload hx hb dL_works_493 (lv_at hl9 1 rfl) ?_
              refine lv_bipush (v := 9) hx hb dL_works_495 (by decide) ?_
              refine zn_icmp_ge (a := t) (b := 9) (tgt := 546) (by omega) (by decide) hx hb dL_works_497 (by decide) (fun h => absurd h (by omega)) (fun _ => ?_)
              refine lv_iload hx hb dL_works_500 (lv_at hl9 0 rfl) ?_
              refine zn_if_lt (a := lf8) (tgt := 546) (by omega) hx hb dL_works_502 (by decide) (fun h => absurd h (fun q => q)) (fun _ => ?_)
              refine lv_iload hx hb dL_works_505 (lv_at hl9 0 rfl) ?_
              refine lv_bipush (v := 100) hx hb dL_works_507 (by decide) ?_
              refine zn_icmp_ge (a := lf8) (b := 100) (tgt := 546) (by omega) (by decide) hx hb dL_works_509 (by decide) (fun h => absurd h (by omega)) (fun _ => ?_)
              refine lv_iload hx hb dL_works_512 (lv_at hl9 1 rfl) ?_
              refine zn_if_ne (a := t) (tgt := 531) (by omega) hx hb dL_works_514 (by decide) (fun c_5 => ?_) (fun c_5 => ?_)
              ·
                refine lv_aload_n hx hb dL_works_531 rfl (lv_at hl9 8 rfl) ?_
                refine lv_iload_n hx hb dL_works_532 rfl (lv_at hl9 10 rfl) ?_
                refine lv_iconst (v := 2) hx hb dL_works_533 (by decide) ?_
                refine z_callW (As := [.ref (ad 0), .int (nI (i)), .int 2]) (rest := []) (zX_k ea mi sa) hX Z Mz9 (hc_bIs2 hI3 hi _) (vx_cwSW 3 hts gL_works_L_billetIs rfl rfl rfl (by decide +kernel) ⟨by decide, by decide⟩) rfl hl9.1 (Nat.le_of_ble_eq_true rfl) dL_works_534 ⟨by show _ ≤ 320; omega, by show _ ≤ 4480; omega⟩ rfl (fun u9 Hp9 lc9 Mz9 => ?_)
                refine zn_top (y := nI (v8)) (by rw [e33]; exact e9) ?_
                refine lv_iload hx hb dL_works_537 (lv_at hl9 5 rfl) ?_
                refine zn_icmp_ne (a := v8) (b := v) (tgt := 546) (by omega) (by omega) hx hb dL_works_539 (by decide) (fun h => absurd h (fun q => q (veq c_5))) (fun _ => ?_)
                refine lv_iconst (v := 1) hx hb dL_works_542 (by decide) ?_
                refine lv_goto (tgt := 547) hx hb dL_works_543 (by decide) ?_
                exact hret _ _ _ _ _ sl9 _ _ (⟨((J, ad, N, mst, bst, ρ3), ga, ma, aa, ca, ta), ⟨(I_le (Nat.le_succ C) hI3), hGr, rfl⟩⟩) Mz9 rfl (rfl) rfl (by show _ ≤ 320; omega) (by show _ ≤ 4480; omega) dL_works_547
              ·
                refine lv_aload_n hx hb dL_works_517 rfl (lv_at hl9 8 rfl) ?_
                refine lv_iload_n hx hb dL_works_518 rfl (lv_at hl9 10 rfl) ?_
                refine lv_iconst (v := 2) hx hb dL_works_519 (by decide) ?_
                refine z_callW (As := [.ref (ad 0), .int (nI (i)), .int 2]) (rest := []) (zX_k ea mi sa) hX Z Mz9 (hc_bIs2 hI3 hi _) (vx_cwSW 3 hts gL_works_L_billetIs rfl rfl rfl (by decide +kernel) ⟨by decide, by decide⟩) rfl hl9.1 (Nat.le_of_ble_eq_true rfl) dL_works_520 ⟨by show _ ≤ 320; omega, by show _ ≤ 4480; omega⟩ rfl (fun u9 Hp9 lc9 Mz9 => ?_)
                refine zn_top (y := nI (v8)) (by rw [e33]; exact e9) ?_
                refine lv_iload hx hb dL_works_523 (lv_at hl9 5 rfl) ?_
                refine zn_icmp_gt (a := v8) (b := v) (tgt := 546) (by omega) (by omega) hx hb dL_works_525 (by decide) (fun h => absurd h (by omega)) (fun _ => ?_)
                refine lv_goto (tgt := 542) hx hb dL_works_528 (by decide) ?_
                refine lv_iconst (v := 1) hx hb dL_works_542 (by decide) ?_
                refine lv_goto (tgt := 547) hx hb dL_works_543 (by decide) ?_
                exact hret _ _ _ _ _ sl9 _ _ (⟨((J, ad, N, mst, bst, ρ3), ga, ma, aa, ca, ta), ⟨(I_le (Nat.le_succ C) hI3), hGr, rfl⟩⟩) Mz9 rfl (rfl) rfl (by show _ ≤ 320; omega) (by show _ ≤ 4480; omega) dL_works_547
          ·
            have hw1 := hc_press_w (l := l) (D := D) (T := T) (ea := ea) (mi := mi) (sa := sa) (ad := ad) (J := J) (N := N) (mst := mst) (bst := bst) (ρ := ρ) hfl hI hi hdN (en := 1 + q4) (by omega) (by omega) (Classical.byContradiction (fun q => qb ⟨Classical.byContradiction (fun q2 => q (Or.inl q2)), Nat.pos_of_ne_zero (fun q2 => q (Or.inr (by rw [lf2, q2]; decide)))⟩))
            have e9 := hvo
            refine z_callW (As := [.ref (ad 0), .int (nI (i)), .int (nI (q3)), .int (nI (1 + q4))]) (rest := []) (zX_k ea mi sa) hX Z Mz9 (hw1 _) (vx_cwSW 4 hts gL_works_L_press rfl rfl rfl (by decide +kernel) ⟨by decide, by decide⟩) rfl hl9.1 (Nat.le_of_ble_eq_true rfl) dL_works_395 ⟨by show _ ≤ 320; omega, by show _ ≤ 4480; omega⟩ rfl (fun u9 Hp9 lc9 Mz9 => ?_)
            refine lv_istore (lv' := [(11, .int (-1000003)), (10, .int (nI (q3))), (9, .int (nI (co))), (8, .int (ρ (100 + 3 * i) 12)), (7, .int (nI (v))), (6, .int (nI (q2))), (5, .int (nI (q1))), (0, .ref (ad 0)), (1, .ref (av 0)), (2, .int (nI (i))), (3, .int (x9)), (4, .int (y9))]) hx hb dL_works_398 hl9 (by decide) rfl (fun sl9 hl9 => ?_)
            refine lv_iload hx hb dL_works_400 (lv_at hl9 0 rfl) ?_
            refine lv_if_ge (tgt := 472) hx hb dL_works_402 (by decide) (fun h => absurd h (by decide)) (fun _ => ?_)
            refine lv_iload hx hb dL_works_405 (lv_at hl9 0 rfl) ?_
            refine lv_iconst (v := (-1)) hx hb dL_works_407 (by decide) ?_
            refine lv_icmp_ne (tgt := 433) hx hb dL_works_408 (by decide) (fun _ => ?_) (fun h => absurd h (by decide))
            refine lv_iload hx hb dL_works_433 (lv_at hl9 0 rfl) ?_
            refine lv_ldc (v := (-1000003)) hx hb Z.1.2.2.2.1 (hts (.constant RL 28 (-1000003)) (by decide +kernel)) dL_works_435 ?_
            refine lv_icmp_ne (tgt := 470) hx hb dL_works_437 (by decide) (fun h => absurd h (by decide)) (fun _ => ?_)
            refine lv_iload hx hb dL_works_440 (lv_at hl9 3 rfl) ?_
            refine lv_iconst (v := 1) hx hb dL_works_442 (by decide) ?_
            refine lv_icmp_eq (tgt := 455) hx hb dL_works_443 (by decide) (fun c_6 => ?_) (fun c_6 => ?_)
            ·
              refine lv_aload_n hx hb dL_works_455 rfl (lv_at hl9 7 rfl) ?_
              refine lv_iload_n hx hb dL_works_456 rfl (lv_at hl9 9 rfl) ?_
              refine lv_iconst (v := 2) hx hb dL_works_457 (by decide) ?_
              refine z_callW (As := [.ref (ad 0), .int (nI (i)), .int 2]) (rest := []) (zX_k ea mi sa) hX Z Mz9 (hc_bIs2 hI hi _) (vx_cwSW 3 hts gL_works_L_billetIs rfl rfl rfl (by decide +kernel) ⟨by decide, by decide⟩) rfl hl9.1 (Nat.le_of_ble_eq_true rfl) dL_works_458 ⟨by show _ ≤ 320; omega, by show _ ≤ 4480; omega⟩ rfl (fun u9 Hp9 lc9 Mz9 => ?_)
              refine zn_top (y := nI (v)) (hvo) ?_
              refine lv_iload hx hb dL_works_461 (lv_at hl9 4 rfl) ?_
              refine zn_icmp_ne (a := v) (b := v) (tgt := 470) (by omega) (by omega) hx hb dL_works_463 (by decide) (fun h => absurd h (fun q => q rfl)) (fun _ => ?_)
              refine lv_iconst (v := 1) hx hb dL_works_466 (by decide) ?_
              refine lv_goto (tgt := 471) hx hb dL_works_467 (by decide) ?_
              exact hret _ _ _ _ _ sl9 _ _ (⟨((J, ad, N, mst, bst, ρ), ga, ma, aa, ca, ta), ⟨(I_le (Nat.le_succ C) hI), hGr, rfl⟩⟩) Mz9 rfl (rfl) rfl (by show _ ≤ 320; omega) (by show _ ≤ 4480; omega) dL_works_471
            ·
              refine lv_aload_n hx hb dL_works_446 rfl (lv_at hl9 7 rfl) ?_
              refine lv_iload hx hb dL_works_447 (lv_at hl9 1 rfl) ?_
              obtain ⟨hw3, hI3⟩ := hc_sink (l := l) (D := D) (T := T) (ea := ea) (mi := mi) (sa := sa) hI (d := q3) hdN
              rw [lf2] at hw3
              obtain ⟨ρ3, hρ3⟩ : ∃ q, q = upR ρ (200 + 2 * q3) (fun _ => 100) := ⟨_, rfl⟩
              rw [← hρ3] at hw3 hI3
              have e33 : ρ3 (101 + 3 * i) = ρ (101 + 3 * i) := by rw [hρ3]; exact upR_ne _ _ (by omega)
              refine z_callW (As := [.ref (ad 0), .int (nI (q3))]) (rest := []) (zX_k ea mi sa) hX Z Mz9 (hw3 _) (vx_cwSW 2 hts gL_works_L_sink rfl rfl rfl (by decide +kernel) ⟨by decide, by decide⟩) rfl hl9.1 (Nat.le_of_ble_eq_true rfl) dL_works_449 ⟨by show _ ≤ 320; omega, by show _ ≤ 4480; omega⟩ rfl (fun u9 Hp9 lc9 Mz9 => ?_)
              refine zn_if_ne (a := lf) (tgt := 470) (by omega) hx hb dL_works_452 (by decide) (fun h => absurd h (by have q8 := hcr.resolve_right c_6; have q9 : ¬ 0 < lf := fun z => qb ⟨q8, z⟩; omega)) (fun _ => ?_)
              refine lv_aload_n hx hb dL_works_455 rfl (lv_at hl9 7 rfl) ?_
              refine lv_iload_n hx hb dL_works_456 rfl (lv_at hl9 9 rfl) ?_
              refine lv_iconst (v := 2) hx hb dL_works_457 (by decide) ?_
              refine z_callW (As := [.ref (ad 0), .int (nI (i)), .int 2]) (rest := []) (zX_k ea mi sa) hX Z Mz9 (hc_bIs2 hI3 hi _) (vx_cwSW 3 hts gL_works_L_billetIs rfl rfl rfl (by decide +kernel) ⟨by decide, by decide⟩) rfl hl9.1 (Nat.le_of_ble_eq_true rfl) dL_works_458 ⟨by show _ ≤ 320; omega, by show _ ≤ 4480; omega⟩ rfl (fun u9 Hp9 lc9 Mz9 => ?_)
              refine zn_top (y := nI (v)) (by rw [e33]; exact e9) ?_
              refine lv_iload hx hb dL_works_461 (lv_at hl9 4 rfl) ?_
              refine zn_icmp_ne (a := v) (b := v) (tgt := 470) (by omega) (by omega) hx hb dL_works_463 (by decide) (fun h => absurd h (fun q => q rfl)) (fun _ => ?_)
              refine lv_iconst (v := 1) hx hb dL_works_466 (by decide) ?_
              refine lv_goto (tgt := 471) hx hb dL_works_467 (by decide) ?_
              exact hret _ _ _ _ _ sl9 _ _ (⟨((J, ad, N, mst, bst, ρ3), ga, ma, aa, ca, ta), ⟨(I_le (Nat.le_succ C) hI3), hGr, rfl⟩⟩) Mz9 rfl (rfl) rfl (by show _ ≤ 320; omega) (by show _ ≤ 4480; omega) dL_works_471
        ·
          refine lv_aload_n hx hb dL_works_352 rfl (lv_at hl9 5 rfl) ?_
          refine lv_iload_n hx hb dL_works_353 rfl (lv_at hl9 7 rfl) ?_
          refine lv_iconst (v := 0) hx hb dL_works_354 (by decide) ?_
          refine lv_iconst (v := 1) hx hb dL_works_355 (by decide) ?_
          refine z_callW (As := [.ref (ad 0), .int (nI (i)), .int 0, .int 1]) (rest := []) (zX_k ea mi sa) hX Z Mz9 (hc_press_d hfl hI hi (by omega) _) (vx_cwSW 4 hts gL_works_L_press rfl rfl rfl (by decide +kernel) ⟨by decide, by decide⟩) rfl hl9.1 (Nat.le_of_ble_eq_true rfl) dL_works_356 ⟨by show _ ≤ 320; omega, by show _ ≤ 4480; omega⟩ rfl (fun u9 Hp9 lc9 Mz9 => ?_)
          refine lv_ldc (v := (-1000001)) hx hb Z.1.2.2.2.1 (hts (.constant RL 18 (-1000001)) (by decide +kernel)) dL_works_359 ?_
          refine lv_icmp_ne (tgt := 368) hx hb dL_works_361 (by decide) (fun h => absurd h (by decide)) (fun _ => ?_)
          refine lv_iconst (v := 1) hx hb dL_works_364 (by decide) ?_
          refine lv_goto (tgt := 369) hx hb dL_works_365 (by decide) ?_
          exact hret _ _ _ _ _ sl9 _ _ (⟨((J, ad, N, mst, bst, ρ), ga, ma, aa, ca, ta), ⟨(I_le (Nat.le_succ C) hI), hGr, rfl⟩⟩) Mz9 rfl (rfl) rfl (by show _ ≤ 320; omega) (by show _ ≤ 4480; omega) dL_works_369
      ·
        refine lv_aload_n hx hb dL_works_263 rfl (lv_at hl9 6 rfl) ?_
        refine lv_iconst (v := 2) hx hb dL_works_264 (by decide) ?_
        refine z_iald Z Mz9 0 (h0 := av 0) (n := 6) (f := ga) rfl (j := 2) (by decide) (by decide) dL_works_265 ?_
        refine zn_top (y := nI (N 2)) (hg2) ?_
        refine zn_if_le (a := N 2) (tgt := 346) (by omega) hx hb dL_works_266 (by decide) (fun c_7 => ?_) (fun c_7 => ?_)
        ·
          refine lv_aload_n hx hb dL_works_346 rfl (lv_at hl9 6 rfl) ?_
          refine lv_iconst (v := 2) hx hb dL_works_347 (by decide) ?_
          refine z_iald Z Mz9 0 (h0 := av 0) (n := 6) (f := ga) rfl (j := 2) (by decide) (by decide) dL_works_348 ?_
          refine zn_top (y := nI (N 2)) (hg2) ?_
          refine zn_if_ne (a := N 2) (tgt := 370) (by omega) hx hb dL_works_349 (by decide) (fun h => absurd h (fun q => q c_7)) (fun _ => ?_)
          refine lv_aload_n hx hb dL_works_352 rfl (lv_at hl9 5 rfl) ?_
          refine lv_iload_n hx hb dL_works_353 rfl (lv_at hl9 7 rfl) ?_
          refine lv_iconst (v := 0) hx hb dL_works_354 (by decide) ?_
          refine lv_iconst (v := 1) hx hb dL_works_355 (by decide) ?_
          refine z_callW (As := [.ref (ad 0), .int (nI (i)), .int 0, .int 1]) (rest := []) (zX_k ea mi sa) hX Z Mz9 (hc_press_d hfl hI hi (by omega) _) (vx_cwSW 4 hts gL_works_L_press rfl rfl rfl (by decide +kernel) ⟨by decide, by decide⟩) rfl hl9.1 (Nat.le_of_ble_eq_true rfl) dL_works_356 ⟨by show _ ≤ 320; omega, by show _ ≤ 4480; omega⟩ rfl (fun u9 Hp9 lc9 Mz9 => ?_)
          refine lv_ldc (v := (-1000001)) hx hb Z.1.2.2.2.1 (hts (.constant RL 18 (-1000001)) (by decide +kernel)) dL_works_359 ?_
          refine lv_icmp_ne (tgt := 368) hx hb dL_works_361 (by decide) (fun h => absurd h (by decide)) (fun _ => ?_)
          refine lv_iconst (v := 1) hx hb dL_works_364 (by decide) ?_
          refine lv_goto (tgt := 369) hx hb dL_works_365 (by decide) ?_
          exact hret _ _ _ _ _ sl9 _ _ (⟨((J, ad, N, mst, bst, ρ), ga, ma, aa, ca, ta), ⟨(I_le (Nat.le_succ C) hI), hGr, rfl⟩⟩) Mz9 rfl (rfl) rfl (by show _ ≤ 320; omega) (by show _ ≤ 4480; omega) dL_works_369
        ·
          refine lv_iconst (v := 1) hx hb dL_works_269 (by decide) ?_
          refine lv_iload hx hb dL_works_270 (lv_at hl9 9 rfl) ?_
          refine lv_iconst (v := 3) hx hb dL_works_272 (by decide) ?_
          refine lv_ishr hx hb dL_works_273 ?_
          refine lv_bipush (v := 60) hx hb dL_works_274 (by decide) ?_
          obtain ⟨q5, b5, z5⟩ := ln_low2 l (y9 >>> (3 &&& 31)) 60 (by decide)
          refine z_callSi (As := [.int (y9 >>> (3 &&& 31)), .int 60]) (rest := [.int 1]) Z.1 z5 (va_cwS 2 hts gL_works_L_low rfl rfl rfl (by decide +kernel) ⟨by decide, by decide⟩) rfl hl9.1 (Nat.le_of_ble_eq_true rfl) dL_works_276 ⟨by show _ ≤ 320; omega, by show _ ≤ 4480; omega⟩ rfl ?_
          refine zn_iadd (a := 1) (b := q5) hx hb dL_works_279 ?_
          refine lv_istore (lv' := [(10, .int (nI (1 + q5))), (9, .int (nI (co))), (8, .int (ρ (100 + 3 * i) 12)), (7, .int (nI (v))), (6, .int (nI (q2))), (5, .int (nI (q1))), (0, .ref (ad 0)), (1, .ref (av 0)), (2, .int (nI (i))), (3, .int (x9)), (4, .int (y9))]) hx hb dL_works_280 hl9 (by decide) rfl (fun sl9 hl9 => ?_)
          refine lv_aload_n hx hb dL_works_282 rfl (lv_at hl9 6 rfl) ?_
          refine lv_iload hx hb dL_works_283 (lv_at hl9 10 rfl) ?_
          refine lv_bipush (v := 9) hx hb dL_works_285 (by decide) ?_
          refine lv_ishr hx hb dL_works_287 ?_
          refine lv_aload_n hx hb dL_works_288 rfl (lv_at hl9 7 rfl) ?_
          refine lv_iconst (v := 2) hx hb dL_works_289 (by decide) ?_
          refine z_iald Z Mz9 0 (h0 := av 0) (n := 6) (f := ga) rfl (j := 2) (by decide) (by decide) dL_works_290 ?_
          refine zn_top (y := nI (N 2)) (hg2) ?_
          obtain ⟨q6, b6, z6⟩ := ln_low2 l (y9 >>> (9 &&& 31)) (N 2) (by omega)
          refine z_callSi (As := [.int (y9 >>> (9 &&& 31)), .int (nI (N 2))]) (rest := [.ref (ad 0)]) Z.1 z6 (va_cwS 2 hts gL_works_L_low rfl rfl rfl (by decide +kernel) ⟨by decide, by decide⟩) rfl hl9.1 (Nat.le_of_ble_eq_true rfl) dL_works_291 ⟨by show _ ≤ 320; omega, by show _ ≤ 4480; omega⟩ rfl ?_
          refine lv_iload hx hb dL_works_294 (lv_at hl9 4 rfl) ?_
          refine lv_iload hx hb dL_works_296 (lv_at hl9 0 rfl) ?_
          obtain ⟨hw1, hI1⟩ := hc_shape (l := l) (D := D) (T := T) (ea := ea) (mi := mi) (sa := sa) hI (d := q6) (j := q2) (w := 1 + q5) (by omega) (by omega) (by omega) (by omega)
          obtain ⟨wa, wa1, wa2, wa3⟩ := (I_D hI (show q6 < N 2 by omega)).2 q2 (by omega)
          rw [wa3] at hw1
          obtain ⟨ρ1, hρ1⟩ : ∃ q, q = upD ρ q6 (ρ (200 + 2 * q6) 0) (upd (ρ (201 + 2 * q6)) q2 (nI (1 + q5))) := ⟨_, rfl⟩
          rw [← hρ1] at hw1 hI1
          have e3 : ρ1 (201 + 2 * q6) = upd (ρ (201 + 2 * q6)) q2 (nI (1 + q5)) := by rw [hρ1]; exact (if_neg (by omega)).trans (if_pos rfl)
          refine z_callW (As := [.ref (ad 0), .int (nI (q6)), .int (nI (q2)), .int (nI (1 + q5))]) (rest := []) (zX_k ea mi sa) hX Z Mz9 (hw1 _) (vx_cwSW 4 hts gL_works_L_shape rfl rfl rfl (by decide +kernel) ⟨by decide, by decide⟩) rfl hl9.1 (Nat.le_of_ble_eq_true rfl) dL_works_298 ⟨by show _ ≤ 320; omega, by show _ ≤ 4480; omega⟩ rfl (fun u9 Hp9 lc9 Mz9 => ?_)
          refine lv_istore (lv' := [(11, .int (nI (wa))), (10, .int (nI (1 + q5))), (9, .int (nI (co))), (8, .int (ρ (100 + 3 * i) 12)), (7, .int (nI (v))), (6, .int (nI (q2))), (5, .int (nI (q1))), (0, .ref (ad 0)), (1, .ref (av 0)), (2, .int (nI (i))), (3, .int (x9)), (4, .int (y9))]) hx hb dL_works_301 hl9 (by decide) rfl (fun sl9 hl9 => ?_)
          refine lv_iload hx hb dL_works_303 (lv_at hl9 0 rfl) ?_
          refine zn_if_le (a := wa) (tgt := 344) (by omega) hx hb dL_works_305 (by decide) (fun h => absurd h (by omega)) (fun _ => ?_)
          refine lv_iload hx hb dL_works_308 (lv_at hl9 0 rfl) ?_
          refine lv_sipush (v := 400) hx hb dL_works_310 (by decide) ?_
          refine zn_icmp_gt (a := wa) (b := 400) (tgt := 344) (by omega) (by decide) hx hb dL_works_313 (by decide) (fun h => absurd h (by omega)) (fun _ => ?_)
          refine lv_aload_n hx hb dL_works_316 rfl (lv_at hl9 7 rfl) ?_
          refine lv_iload hx hb dL_works_317 (lv_at hl9 11 rfl) ?_
          refine lv_bipush (v := 9) hx hb dL_works_319 (by decide) ?_
          refine lv_ishr hx hb dL_works_321 ?_
          refine lv_aload_n hx hb dL_works_322 rfl (lv_at hl9 8 rfl) ?_
          refine lv_iconst (v := 2) hx hb dL_works_323 (by decide) ?_
          refine z_iald Z Mz9 0 (h0 := av 0) (n := 6) (f := ga) rfl (j := 2) (by decide) (by decide) dL_works_324 ?_
          refine zn_top (y := nI (N 2)) (hg2) ?_
          refine z_callSi (As := [.int (y9 >>> (9 &&& 31)), .int (nI (N 2))]) (rest := [.ref (ad 0)]) Z.1 z6 (va_cwS 2 hts gL_works_L_low rfl rfl rfl (by decide +kernel) ⟨by decide, by decide⟩) rfl hl9.1 (Nat.le_of_ble_eq_true rfl) dL_works_325 ⟨by show _ ≤ 320; omega, by show _ ≤ 4480; omega⟩ rfl ?_
          refine lv_iload hx hb dL_works_328 (lv_at hl9 5 rfl) ?_
          refine lv_iload hx hb dL_works_330 (lv_at hl9 1 rfl) ?_
          obtain ⟨hw2, hI2⟩ := hc_shape (l := l) (D := D) (T := T) (ea := ea) (mi := mi) (sa := sa) hI1 (d := q6) (j := q2) (w := 1 + q5) (by omega) (by omega) (by omega) (by omega)
          rw [show ρ1 (201 + 2 * q6) q2 = nI (1 + q5) by rw [e3]; exact upd_same _ _ _] at hw2
          obtain ⟨ρ2, hρ2⟩ : ∃ q, q = upD ρ1 q6 (ρ1 (200 + 2 * q6) 0) (upd (ρ1 (201 + 2 * q6)) q2 (nI (1 + q5))) := ⟨_, rfl⟩
          rw [← hρ2] at hw2 hI2
          refine z_callW (As := [.ref (ad 0), .int (nI (q6)), .int (nI (q2)), .int (nI (1 + q5))]) (rest := []) (zX_k ea mi sa) hX Z Mz9 (hw2 _) (vx_cwSW 4 hts gL_works_L_shape rfl rfl rfl (by decide +kernel) ⟨by decide, by decide⟩) rfl hl9.1 (Nat.le_of_ble_eq_true rfl) dL_works_332 ⟨by show _ ≤ 320; omega, by show _ ≤ 4480; omega⟩ rfl (fun u9 Hp9 lc9 Mz9 => ?_)
          refine lv_iload hx hb dL_works_335 (lv_at hl9 1 rfl) ?_
          refine zn_icmp_ne (a := 1 + q5) (b := 1 + q5) (tgt := 344) (by omega) (by omega) hx hb dL_works_337 (by decide) (fun h => absurd h (fun q => q rfl)) (fun _ => ?_)
          refine lv_iconst (v := 1) hx hb dL_works_340 (by decide) ?_
          refine lv_goto (tgt := 345) hx hb dL_works_341 (by decide) ?_
          exact hret _ _ _ _ _ sl9 _ _ (⟨((J, ad, N, mst, bst, ρ2), ga, ma, aa, ca, ta), ⟨(I_le (Nat.le_succ C) hI2), hGr, rfl⟩⟩) Mz9 rfl (rfl) rfl (by show _ ≤ 320; omega) (by show _ ≤ 4480; omega) dL_works_345
    ·
      refine lv_iconst (v := 1) hx hb dL_works_190 (by decide) ?_
      refine lv_iload hx hb dL_works_191 (lv_at hl9 9 rfl) ?_
      refine lv_iconst (v := 3) hx hb dL_works_193 (by decide) ?_
      refine lv_ishr hx hb dL_works_194 ?_
      refine lv_bipush (v := 30) hx hb dL_works_195 (by decide) ?_
      obtain ⟨q7, b7, z7⟩ := ln_low2 l (y9 >>> (3 &&& 31)) 30 (by decide)
      refine z_callSi (As := [.int (y9 >>> (3 &&& 31)), .int 30]) (rest := [.int 1]) Z.1 z7 (va_cwS 2 hts gL_works_L_low rfl rfl rfl (by decide +kernel) ⟨by decide, by decide⟩) rfl hl9.1 (Nat.le_of_ble_eq_true rfl) dL_works_197 ⟨by show _ ≤ 320; omega, by show _ ≤ 4480; omega⟩ rfl ?_
      refine zn_iadd (a := 1) (b := q7) hx hb dL_works_200 ?_
      refine lv_istore (lv' := [(10, .int (nI (1 + q7))), (9, .int (nI (co))), (8, .int (ρ (100 + 3 * i) 12)), (7, .int (nI (v))), (6, .int (nI (q2))), (5, .int (nI (q1))), (0, .ref (ad 0)), (1, .ref (av 0)), (2, .int (nI (i))), (3, .int (x9)), (4, .int (y9))]) hx hb dL_works_201 hl9 (by decide) rfl (fun sl9 hl9 => ?_)
      refine lv_aload_n hx hb dL_works_203 rfl (lv_at hl9 6 rfl) ?_
      refine lv_iload_n hx hb dL_works_204 rfl (lv_at hl9 8 rfl) ?_
      refine lv_iload hx hb dL_works_205 (lv_at hl9 4 rfl) ?_
      refine lv_iload hx hb dL_works_207 (lv_at hl9 0 rfl) ?_
      obtain ⟨β1, α1, t, hw1, ht, e8, e2, hI1⟩ := hc_cut (l := l) (D := D) (T := T) (ea := ea) (mi := mi) (sa := sa) hI hi (j := q2) (mu := 1 + q7) (by omega) (by omega) (by omega)
      obtain ⟨ρ1, hρ1⟩ : ∃ q, q = upB ρ i β1 α1 (ρ (102 + 3 * i)) := ⟨_, rfl⟩
      rw [← hρ1] at hw1 hI1
      have e1 : ρ1 (100 + 3 * i) = β1 := by rw [hρ1]; exact upB_b
      have e3 : ρ1 (101 + 3 * i) = α1 := by rw [hρ1]; exact upB_a
      rw [← e1] at e8
      rw [← e3] at e2
      refine z_callW (As := [.ref (ad 0), .int (nI (i)), .int (nI (q2)), .int (nI (1 + q7))]) (rest := []) (zX_k ea mi sa) hX Z Mz9 (hw1 _) (vx_cwSW 4 hts gL_works_L_cut rfl rfl rfl (by decide +kernel) ⟨by decide, by decide⟩) rfl hl9.1 (Nat.le_of_ble_eq_true rfl) dL_works_209 ⟨by show _ ≤ 320; omega, by show _ ≤ 4480; omega⟩ rfl (fun u9 Hp9 lc9 Mz9 => ?_)
      refine lv_istore (lv' := [(11, .int (nI (t))), (10, .int (nI (1 + q7))), (9, .int (nI (co))), (8, .int (ρ (100 + 3 * i) 12)), (7, .int (nI (v))), (6, .int (nI (q2))), (5, .int (nI (q1))), (0, .ref (ad 0)), (1, .ref (av 0)), (2, .int (nI (i))), (3, .int (x9)), (4, .int (y9))]) hx hb dL_works_212 hl9 (by decide) rfl (fun sl9 hl9 => ?_)
      refine lv_iload hx hb dL_works_214 (lv_at hl9 0 rfl) ?_
      refine zn_if_lt (a := t) (tgt := 255) (by omega) hx hb dL_works_216 (by decide) (fun h => absurd h (fun q => q)) (fun _ => ?_)
      refine lv_iload hx hb dL_works_219 (lv_at hl9 0 rfl) ?_
      refine lv_iload hx hb dL_works_221 (lv_at hl9 1 rfl) ?_
      refine zn_icmp_gt (a := t) (b := 1 + q7) (tgt := 255) (by omega) (by omega) hx hb dL_works_223 (by decide) (fun h => absurd h (by omega)) (fun _ => ?_)
      refine lv_aload_n hx hb dL_works_226 rfl (lv_at hl9 7 rfl) ?_
      refine lv_iload_n hx hb dL_works_227 rfl (lv_at hl9 9 rfl) ?_
      refine lv_iconst (v := 2) hx hb dL_works_228 (by decide) ?_
      refine z_callW (As := [.ref (ad 0), .int (nI (i)), .int 2]) (rest := []) (zX_k ea mi sa) hX Z Mz9 (hc_bIs2 hI1 hi _) (vx_cwSW 3 hts gL_works_L_billetIs rfl rfl rfl (by decide +kernel) ⟨by decide, by decide⟩) rfl hl9.1 (Nat.le_of_ble_eq_true rfl) dL_works_229 ⟨by show _ ≤ 320; omega, by show _ ≤ 4480; omega⟩ rfl (fun u9 Hp9 lc9 Mz9 => ?_)
      refine lv_iload hx hb dL_works_232 (lv_at hl9 4 rfl) ?_
      refine lv_iload hx hb dL_works_234 (lv_at hl9 0 rfl) ?_
      refine lv_isub hx hb dL_works_236 ?_
      refine lv_icmp_ne (tgt := 255) hx hb dL_works_237 (by decide) (fun h => absurd h (fun q => q (by rw [e2, hvo]))) (fun _ => ?_)
      refine lv_aload_n hx hb dL_works_240 rfl (lv_at hl9 7 rfl) ?_
      refine lv_iload_n hx hb dL_works_241 rfl (lv_at hl9 9 rfl) ?_
      refine lv_iconst (v := 1) hx hb dL_works_242 (by decide) ?_
      refine z_callW (As := [.ref (ad 0), .int (nI (i)), .int 1]) (rest := []) (zX_k ea mi sa) hX Z Mz9 (hc_bIs1 hI1 hi _) (vx_cwSW 3 hts gL_works_L_billetIs rfl rfl rfl (by decide +kernel) ⟨by decide, by decide⟩) rfl hl9.1 (Nat.le_of_ble_eq_true rfl) dL_works_243 ⟨by show _ ≤ 320; omega, by show _ ≤ 4480; omega⟩ rfl (fun u9 Hp9 lc9 Mz9 => ?_)
      refine lv_iload hx hb dL_works_246 (lv_at hl9 2 rfl) ?_
      refine lv_icmp_ne (tgt := 255) hx hb dL_works_248 (by decide) (fun h => absurd h (fun q => q (by rw [e8, o3]))) (fun _ => ?_)
      refine lv_iconst (v := 1) hx hb dL_works_251 (by decide) ?_
      refine lv_goto (tgt := 256) hx hb dL_works_252 (by decide) ?_
      exact hret _ _ _ _ _ sl9 _ _ (⟨((J, ad, N, mst, bst, ρ1), ga, ma, aa, ca, ta), ⟨(I_le (Nat.le_succ C) hI1), hGr, rfl⟩⟩) Mz9 rfl (rfl) rfl (by show _ ≤ 320; omega) (by show _ ≤ 4480; omega) dL_works_256
  ·
    refine lv_iconst (v := 1) hx hb dL_works_46 (by decide) ?_
    refine lv_iload hx hb dL_works_47 (lv_at hl9 9 rfl) ?_
    refine lv_iconst (v := 3) hx hb dL_works_49 (by decide) ?_
    refine lv_ishr hx hb dL_works_50 ?_
    refine lv_bipush (v := 20) hx hb dL_works_51 (by decide) ?_
    obtain ⟨q8, b8, z8⟩ := ln_low2 l (y9 >>> (3 &&& 31)) 20 (by decide)
    refine z_callSi (As := [.int (y9 >>> (3 &&& 31)), .int 20]) (rest := [.int 1]) Z.1 z8 (va_cwS 2 hts gL_works_L_low rfl rfl rfl (by decide +kernel) ⟨by decide, by decide⟩) rfl hl9.1 (Nat.le_of_ble_eq_true rfl) dL_works_53 ⟨by show _ ≤ 320; omega, by show _ ≤ 4480; omega⟩ rfl ?_
    refine zn_iadd (a := 1) (b := q8) hx hb dL_works_56 ?_
    refine lv_istore (lv' := [(10, .int (nI (1 + q8))), (9, .int (nI (co))), (8, .int (ρ (100 + 3 * i) 12)), (7, .int (nI (v))), (6, .int (nI (q2))), (5, .int (nI (q1))), (0, .ref (ad 0)), (1, .ref (av 0)), (2, .int (nI (i))), (3, .int (x9)), (4, .int (y9))]) hx hb dL_works_57 hl9 (by decide) rfl (fun sl9 hl9 => ?_)
    refine lv_aload_n hx hb dL_works_59 rfl (lv_at hl9 6 rfl) ?_
    refine lv_iload_n hx hb dL_works_60 rfl (lv_at hl9 8 rfl) ?_
    refine lv_iload hx hb dL_works_61 (lv_at hl9 4 rfl) ?_
    refine lv_iload hx hb dL_works_63 (lv_at hl9 10 rfl) ?_
    refine lv_bipush (v := 8) hx hb dL_works_65 (by decide) ?_
    refine lv_ishr hx hb dL_works_67 ?_
    refine lv_iconst (v := 2) hx hb dL_works_68 (by decide) ?_
    obtain ⟨q9, b9, z9⟩ := ln_low2 l (y9 >>> (8 &&& 31)) 2 (by decide)
    refine z_callSi (As := [.int (y9 >>> (8 &&& 31)), .int 2]) (rest := [.int (nI (q2)), .int (nI (i)), .ref (ad 0)]) Z.1 z9 (va_cwS 2 hts gL_works_L_low rfl rfl rfl (by decide +kernel) ⟨by decide, by decide⟩) rfl hl9.1 (Nat.le_of_ble_eq_true rfl) dL_works_69 ⟨by show _ ≤ 320; omega, by show _ ≤ 4480; omega⟩ rfl ?_
    refine lv_iload hx hb dL_works_72 (lv_at hl9 0 rfl) ?_
    have hkd : nI (q9) = 0 ∨ nI (q9) = 1 := (by have := b9; rcases (show q9 = 0 ∨ q9 = 1 by omega) with h | h <;> rw [h] <;> first | exact Or.inl rfl | exact Or.inr rfl)
    by_cases q12 : ρ (100 + 3 * i) 12 = 0
    · by_cases q7 : co < 700
      ·
        obtain ⟨β1, hw1, e12, hI1⟩ := hc_blow_k (l := l) (D := D) (T := T) (ea := ea) (mi := mi) (sa := sa) hI hi (j := q2) (fo := 1 + q8) (kd := nI (q9)) (by omega) (by omega) (by omega) hkd q12 (hc7 q7)
        obtain ⟨ρ1, hρ1⟩ : ∃ q, q = upB ρ i β1 (ρ (101 + 3 * i)) (ρ (102 + 3 * i)) := ⟨_, rfl⟩
        rw [← hρ1] at hw1 hI1
        have e1 : ρ1 (100 + 3 * i) = β1 := by rw [hρ1]; exact upB_b
        have e2 : ρ1 (101 + 3 * i) = ρ (101 + 3 * i) := by rw [hρ1]; exact upB_a
        rw [← e1] at e12
        have e6 : (if ρ1 (100 + 3 * i) 12 = 0 then (0 : Int32) else 1) = 1 := by rw [e12]; rfl
        have e9 : VO (ρ1 (101 + 3 * i)) 0 = nI v := by rw [e2]; exact hvo
        refine z_callW (As := [.ref (ad 0), .int (nI (i)), .int (nI (q2)), .int (nI (q9)), .int (nI (1 + q8))]) (rest := []) (zX_k ea mi sa) hX Z Mz9 (hw1 _) (vx_cwSW 5 hts gL_works_L_blow rfl rfl rfl (by decide +kernel) ⟨by decide, by decide⟩) rfl hl9.1 (Nat.le_of_ble_eq_true rfl) dL_works_74 ⟨by show _ ≤ 320; omega, by show _ ≤ 4480; omega⟩ rfl (fun u9 Hp9 lc9 Mz9 => ?_)
        refine lv_istore (lv' := [(11, .int (-1)), (10, .int (nI (1 + q8))), (9, .int (nI (co))), (8, .int (ρ (100 + 3 * i) 12)), (7, .int (nI (v))), (6, .int (nI (q2))), (5, .int (nI (q1))), (0, .ref (ad 0)), (1, .ref (av 0)), (2, .int (nI (i))), (3, .int (x9)), (4, .int (y9))]) hx hb dL_works_77 hl9 (by decide) rfl (fun sl9 hl9 => ?_)
        refine lv_iload hx hb dL_works_79 (lv_at hl9 3 rfl) ?_
        refine lv_iconst (v := 1) hx hb dL_works_81 (by decide) ?_
        refine lv_icmp_ne (tgt := 100) hx hb dL_works_82 (by decide) (fun _ => ?_) (fun h => absurd h (by rw [q12]; decide))
        refine lv_iload hx hb dL_works_100 (lv_at hl9 2 rfl) ?_
        refine lv_sipush (v := 700) hx hb dL_works_102 (by decide) ?_
        refine zn_icmp_ge (a := co) (b := 700) (tgt := 133) (by omega) (by decide) hx hb dL_works_105 (by decide) (fun h => absurd h (by omega)) (fun _ => ?_)
        refine lv_iload hx hb dL_works_108 (lv_at hl9 0 rfl) ?_
        refine lv_iconst (v := (-1)) hx hb dL_works_110 (by decide) ?_
        refine lv_icmp_ne (tgt := 129) hx hb dL_works_111 (by decide) (fun h => absurd h (by decide)) (fun _ => ?_)
        refine lv_aload_n hx hb dL_works_114 rfl (lv_at hl9 7 rfl) ?_
        refine lv_iload_n hx hb dL_works_115 rfl (lv_at hl9 9 rfl) ?_
        refine lv_bipush (v := 6) hx hb dL_works_116 (by decide) ?_
        refine z_callW (As := [.ref (ad 0), .int (nI (i)), .int 6]) (rest := []) (zX_k ea mi sa) hX Z Mz9 (hc_bIs6 hI1 hi _) (vx_cwSW 3 hts gL_works_L_billetIs rfl rfl rfl (by decide +kernel) ⟨by decide, by decide⟩) rfl hl9.1 (Nat.le_of_ble_eq_true rfl) dL_works_118 ⟨by show _ ≤ 320; omega, by show _ ≤ 4480; omega⟩ rfl (fun u9 Hp9 lc9 Mz9 => ?_)
        refine zn_top (y := 1) (e6) ?_
        refine lv_iconst (v := 1) hx hb dL_works_121 (by decide) ?_
        refine lv_icmp_ne (tgt := 129) hx hb dL_works_122 (by decide) (fun h => absurd h (by decide)) (fun _ => ?_)
        refine lv_iconst (v := 1) hx hb dL_works_125 (by decide) ?_
        refine lv_goto (tgt := 160) hx hb dL_works_126 (by decide) ?_
        refine lv_istore (lv' := [(12, .int 1), (11, .int (-1)), (10, .int (nI (1 + q8))), (9, .int (nI (co))), (8, .int (ρ (100 + 3 * i) 12)), (7, .int (nI (v))), (6, .int (nI (q2))), (5, .int (nI (q1))), (0, .ref (ad 0)), (1, .ref (av 0)), (2, .int (nI (i))), (3, .int (x9)), (4, .int (y9))]) hx hb dL_works_160 hl9 (by decide) rfl (fun sl9 hl9 => ?_)
        refine lv_iload hx hb dL_works_162 (lv_at hl9 0 rfl) ?_
        refine lv_if_eq (tgt := 182) hx hb dL_works_164 (by decide) (fun h => absurd h (by decide)) (fun _ => ?_)
        refine lv_aload_n hx hb dL_works_167 rfl (lv_at hl9 8 rfl) ?_
        refine lv_iload_n hx hb dL_works_168 rfl (lv_at hl9 10 rfl) ?_
        refine lv_iconst (v := 2) hx hb dL_works_169 (by decide) ?_
        refine z_callW (As := [.ref (ad 0), .int (nI (i)), .int 2]) (rest := []) (zX_k ea mi sa) hX Z Mz9 (hc_bIs2 hI1 hi _) (vx_cwSW 3 hts gL_works_L_billetIs rfl rfl rfl (by decide +kernel) ⟨by decide, by decide⟩) rfl hl9.1 (Nat.le_of_ble_eq_true rfl) dL_works_170 ⟨by show _ ≤ 320; omega, by show _ ≤ 4480; omega⟩ rfl (fun u9 Hp9 lc9 Mz9 => ?_)
        refine zn_top (y := nI (v)) (e9) ?_
        refine lv_iload hx hb dL_works_173 (lv_at hl9 5 rfl) ?_
        refine zn_icmp_ne (a := v) (b := v) (tgt := 182) (by omega) (by omega) hx hb dL_works_175 (by decide) (fun h => absurd h (fun q => q rfl)) (fun _ => ?_)
        refine lv_iconst (v := 1) hx hb dL_works_178 (by decide) ?_
        refine lv_goto (tgt := 183) hx hb dL_works_179 (by decide) ?_
        exact hret _ _ _ _ _ sl9 _ _ (⟨((J, ad, N, mst, bst, ρ1), ga, ma, aa, ca, ta), ⟨(I_le (Nat.le_succ C) hI1), hGr, rfl⟩⟩) Mz9 rfl (rfl) rfl (by show _ ≤ 320; omega) (by show _ ≤ 4480; omega) dL_works_183
      ·
        obtain ⟨β1, α1, t, hw1, ht, e12, e2, hI1⟩ := hc_blow_o (l := l) (D := D) (T := T) (ea := ea) (mi := mi) (sa := sa) hI hi (j := q2) (fo := 1 + q8) (kd := nI (q9)) (by omega) (by omega) (by omega) hkd q12 (hc8 q7)
        obtain ⟨ρ1, hρ1⟩ : ∃ q, q = upB ρ i β1 α1 (ρ (102 + 3 * i)) := ⟨_, rfl⟩
        rw [← hρ1] at hw1 hI1
        have e1 : ρ1 (100 + 3 * i) = β1 := by rw [hρ1]; exact upB_b
        have e3 : ρ1 (101 + 3 * i) = α1 := by rw [hρ1]; exact upB_a
        rw [← e1] at e12
        rw [← e3] at e2
        have e6 : (if ρ1 (100 + 3 * i) 12 = 0 then (0 : Int32) else 1) = 0 := if_pos e12
        have e9 : VO (ρ1 (101 + 3 * i)) 0 = nI v := e2.trans hvo
        refine z_callW (As := [.ref (ad 0), .int (nI (i)), .int (nI (q2)), .int (nI (q9)), .int (nI (1 + q8))]) (rest := []) (zX_k ea mi sa) hX Z Mz9 (hw1 _) (vx_cwSW 5 hts gL_works_L_blow rfl rfl rfl (by decide +kernel) ⟨by decide, by decide⟩) rfl hl9.1 (Nat.le_of_ble_eq_true rfl) dL_works_74 ⟨by show _ ≤ 320; omega, by show _ ≤ 4480; omega⟩ rfl (fun u9 Hp9 lc9 Mz9 => ?_)
        refine lv_istore (lv' := [(11, .int (nI (t))), (10, .int (nI (1 + q8))), (9, .int (nI (co))), (8, .int (ρ (100 + 3 * i) 12)), (7, .int (nI (v))), (6, .int (nI (q2))), (5, .int (nI (q1))), (0, .ref (ad 0)), (1, .ref (av 0)), (2, .int (nI (i))), (3, .int (x9)), (4, .int (y9))]) hx hb dL_works_77 hl9 (by decide) rfl (fun sl9 hl9 => ?_)
        refine lv_iload hx hb dL_works_79 (lv_at hl9 3 rfl) ?_
        refine lv_iconst (v := 1) hx hb dL_works_81 (by decide) ?_
        refine lv_icmp_ne (tgt := 100) hx hb dL_works_82 (by decide) (fun _ => ?_) (fun h => absurd h (by rw [q12]; decide))
        refine lv_iload hx hb dL_works_100 (lv_at hl9 2 rfl) ?_
        refine lv_sipush (v := 700) hx hb dL_works_102 (by decide) ?_
        refine zn_icmp_ge (a := co) (b := 700) (tgt := 133) (by omega) (by decide) hx hb dL_works_105 (by decide) (fun _ => ?_) (fun h => absurd h (by omega))
        refine lv_iload hx hb dL_works_133 (lv_at hl9 0 rfl) ?_
        refine zn_if_lt (a := t) (tgt := 159) (by omega) hx hb dL_works_135 (by decide) (fun h => absurd h (fun q => q)) (fun _ => ?_)
        refine lv_iload hx hb dL_works_138 (lv_at hl9 0 rfl) ?_
        refine lv_iload hx hb dL_works_140 (lv_at hl9 1 rfl) ?_
        refine zn_icmp_gt (a := t) (b := 1 + q8) (tgt := 159) (by omega) (by omega) hx hb dL_works_142 (by decide) (fun h => absurd h (by omega)) (fun _ => ?_)
        refine lv_aload_n hx hb dL_works_145 rfl (lv_at hl9 7 rfl) ?_
        refine lv_iload_n hx hb dL_works_146 rfl (lv_at hl9 9 rfl) ?_
        refine lv_bipush (v := 6) hx hb dL_works_147 (by decide) ?_
        refine z_callW (As := [.ref (ad 0), .int (nI (i)), .int 6]) (rest := []) (zX_k ea mi sa) hX Z Mz9 (hc_bIs6 hI1 hi _) (vx_cwSW 3 hts gL_works_L_billetIs rfl rfl rfl (by decide +kernel) ⟨by decide, by decide⟩) rfl hl9.1 (Nat.le_of_ble_eq_true rfl) dL_works_149 ⟨by show _ ≤ 320; omega, by show _ ≤ 4480; omega⟩ rfl (fun u9 Hp9 lc9 Mz9 => ?_)
        refine zn_top (y := 0) (e6) ?_
        refine lv_if_ne (tgt := 159) hx hb dL_works_152 (by decide) (fun h => absurd h (by decide)) (fun _ => ?_)
        refine lv_iconst (v := 1) hx hb dL_works_155 (by decide) ?_
        refine lv_goto (tgt := 160) hx hb dL_works_156 (by decide) ?_
        refine lv_istore (lv' := [(12, .int 1), (11, .int (nI (t))), (10, .int (nI (1 + q8))), (9, .int (nI (co))), (8, .int (ρ (100 + 3 * i) 12)), (7, .int (nI (v))), (6, .int (nI (q2))), (5, .int (nI (q1))), (0, .ref (ad 0)), (1, .ref (av 0)), (2, .int (nI (i))), (3, .int (x9)), (4, .int (y9))]) hx hb dL_works_160 hl9 (by decide) rfl (fun sl9 hl9 => ?_)
        refine lv_iload hx hb dL_works_162 (lv_at hl9 0 rfl) ?_
        refine lv_if_eq (tgt := 182) hx hb dL_works_164 (by decide) (fun h => absurd h (by decide)) (fun _ => ?_)
        refine lv_aload_n hx hb dL_works_167 rfl (lv_at hl9 8 rfl) ?_
        refine lv_iload_n hx hb dL_works_168 rfl (lv_at hl9 10 rfl) ?_
        refine lv_iconst (v := 2) hx hb dL_works_169 (by decide) ?_
        refine z_callW (As := [.ref (ad 0), .int (nI (i)), .int 2]) (rest := []) (zX_k ea mi sa) hX Z Mz9 (hc_bIs2 hI1 hi _) (vx_cwSW 3 hts gL_works_L_billetIs rfl rfl rfl (by decide +kernel) ⟨by decide, by decide⟩) rfl hl9.1 (Nat.le_of_ble_eq_true rfl) dL_works_170 ⟨by show _ ≤ 320; omega, by show _ ≤ 4480; omega⟩ rfl (fun u9 Hp9 lc9 Mz9 => ?_)
        refine zn_top (y := nI (v)) (e9) ?_
        refine lv_iload hx hb dL_works_173 (lv_at hl9 5 rfl) ?_
        refine zn_icmp_ne (a := v) (b := v) (tgt := 182) (by omega) (by omega) hx hb dL_works_175 (by decide) (fun h => absurd h (fun q => q rfl)) (fun _ => ?_)
        refine lv_iconst (v := 1) hx hb dL_works_178 (by decide) ?_
        refine lv_goto (tgt := 183) hx hb dL_works_179 (by decide) ?_
        exact hret _ _ _ _ _ sl9 _ _ (⟨((J, ad, N, mst, bst, ρ1), ga, ma, aa, ca, ta), ⟨hI1, hGr, rfl⟩⟩) Mz9 rfl (rfl) rfl (by show _ ≤ 320; omega) (by show _ ≤ 4480; omega) dL_works_183
    ·
      have hw1 := hc_blow_c (l := l) (D := D) (T := T) (ea := ea) (mi := mi) (sa := sa) (ad := ad) (J := J) (N := N) (mst := mst) (bst := bst) (ρ := ρ) hfl hI hi (j := q2) (fo := 1 + q8) (kd := nI (q9)) (by omega) (by omega) (by omega) hkd q12
      have e9 := hvo
      refine z_callW (As := [.ref (ad 0), .int (nI (i)), .int (nI (q2)), .int (nI (q9)), .int (nI (1 + q8))]) (rest := []) (zX_k ea mi sa) hX Z Mz9 (hw1 _) (vx_cwSW 5 hts gL_works_L_blow rfl rfl rfl (by decide +kernel) ⟨by decide, by decide⟩) rfl hl9.1 (Nat.le_of_ble_eq_true rfl) dL_works_74 ⟨by show _ ≤ 320; omega, by show _ ≤ 4480; omega⟩ rfl (fun u9 Hp9 lc9 Mz9 => ?_)
      refine lv_istore (lv' := [(11, .int (-1000003)), (10, .int (nI (1 + q8))), (9, .int (nI (co))), (8, .int (ρ (100 + 3 * i) 12)), (7, .int (nI (v))), (6, .int (nI (q2))), (5, .int (nI (q1))), (0, .ref (ad 0)), (1, .ref (av 0)), (2, .int (nI (i))), (3, .int (x9)), (4, .int (y9))]) hx hb dL_works_77 hl9 (by decide) rfl (fun sl9 hl9 => ?_)
      refine lv_iload hx hb dL_works_79 (lv_at hl9 3 rfl) ?_
      refine lv_iconst (v := 1) hx hb dL_works_81 (by decide) ?_
      refine lv_icmp_ne (tgt := 100) hx hb dL_works_82 (by decide) (fun h => absurd h (fun q => q (hcr.resolve_left q12))) (fun _ => ?_)
      refine lv_iload hx hb dL_works_85 (lv_at hl9 0 rfl) ?_
      refine lv_ldc (v := (-1000003)) hx hb Z.1.2.2.2.1 (hts (.constant RL 28 (-1000003)) (by decide +kernel)) dL_works_87 ?_
      refine lv_icmp_ne (tgt := 96) hx hb dL_works_89 (by decide) (fun h => absurd h (by decide)) (fun _ => ?_)
      refine lv_iconst (v := 1) hx hb dL_works_92 (by decide) ?_
      refine lv_goto (tgt := 160) hx hb dL_works_93 (by decide) ?_
      refine lv_istore (lv' := [(12, .int 1), (11, .int (-1000003)), (10, .int (nI (1 + q8))), (9, .int (nI (co))), (8, .int (ρ (100 + 3 * i) 12)), (7, .int (nI (v))), (6, .int (nI (q2))), (5, .int (nI (q1))), (0, .ref (ad 0)), (1, .ref (av 0)), (2, .int (nI (i))), (3, .int (x9)), (4, .int (y9))]) hx hb dL_works_160 hl9 (by decide) rfl (fun sl9 hl9 => ?_)
      refine lv_iload hx hb dL_works_162 (lv_at hl9 0 rfl) ?_
      refine lv_if_eq (tgt := 182) hx hb dL_works_164 (by decide) (fun h => absurd h (by decide)) (fun _ => ?_)
      refine lv_aload_n hx hb dL_works_167 rfl (lv_at hl9 8 rfl) ?_
      refine lv_iload_n hx hb dL_works_168 rfl (lv_at hl9 10 rfl) ?_
      refine lv_iconst (v := 2) hx hb dL_works_169 (by decide) ?_
      refine z_callW (As := [.ref (ad 0), .int (nI (i)), .int 2]) (rest := []) (zX_k ea mi sa) hX Z Mz9 (hc_bIs2 hI hi _) (vx_cwSW 3 hts gL_works_L_billetIs rfl rfl rfl (by decide +kernel) ⟨by decide, by decide⟩) rfl hl9.1 (Nat.le_of_ble_eq_true rfl) dL_works_170 ⟨by show _ ≤ 320; omega, by show _ ≤ 4480; omega⟩ rfl (fun u9 Hp9 lc9 Mz9 => ?_)
      refine zn_top (y := nI (v)) (hvo) ?_
      refine lv_iload hx hb dL_works_173 (lv_at hl9 5 rfl) ?_
      refine zn_icmp_ne (a := v) (b := v) (tgt := 182) (by omega) (by omega) hx hb dL_works_175 (by decide) (fun h => absurd h (fun q => q rfl)) (fun _ => ?_)
      refine lv_iconst (v := 1) hx hb dL_works_178 (by decide) ?_
      refine lv_goto (tgt := 183) hx hb dL_works_179 (by decide) ?_
      exact hret _ _ _ _ _ sl9 _ _ (⟨((J, ad, N, mst, bst, ρ), ga, ma, aa, ca, ta), ⟨(I_le (Nat.le_succ C) hI), hGr, rfl⟩⟩) Mz9 rfl (rfl) rfl (by show _ ≤ 320; omega) (by show _ ≤ 4480; omega) dL_works_183
end LAW2
