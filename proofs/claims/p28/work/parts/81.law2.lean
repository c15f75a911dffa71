/-! ===== the law's own methods: heats, works ===== -/
theorem ln_low2 (l : Launch) (v : Int32) (n : Nat) (hn : 0 < n ∧ n < 2 ^ 31) : ∃ q : Nat, q < n ∧ ZS l yL_low wsL_low (zrm 0 0) [.int v, .int (nI n)] (nI q) := ⟨lo v n, lo_lt v hn.1, ln_low l v n hn⟩
abbrev YS : Type := PS × (Nat → Int32) × (Nat → Int32) × (Nat → Int32) × (Nat → Int32) × (Nat → Int32)
abbrev yW (T : Nat → ClassId) (ea : Nat) (av : Nat → Nat) (Y : YS) : va_W := lwR T av Y.2.1 Y.2.2.1 Y.2.2.2.1 Y.2.2.2.2.1 Y.2.2.2.2.2 ++ cW T ea Y.1
abbrev PIc (C o : Nat) (Y : YS) : Prop := Inv C Y.1.J Y.1.N Y.1.mst Y.1.bst Y.1.ρ Y.2.2.2.1 Y.2.2.2.2.1 ∧ GRc Y.1.N Y.2.1 ∧ Y.1.ad 0 = o
theorem nn3 {n : Nat} (h : n < 2 ^ 31) : ¬ nI n = -1000003 := fun e => nI_pos h (by rw [e]; decide)
theorem nn1 {n : Nat} (h : n < 2 ^ 31) : ¬ nI n = -1 := nm1 h
section LAW2
variable {l : Launch} {D : va_G} {T : Nat → ClassId} {ea mi : Nat} {sa : Nat → Nat}
variable {C : Nat} {ad : Nat → Nat} {J : List Nat} {N mst bst : Nat → Nat} {ρ : Nat → Nat → Int32} {ga ma aa ca ta : Nat → Int32} {av : Nat → Nat} {i : Nat}
set_option maxHeartbeats 4000000 in
set_option maxRecDepth 100000 in
theorem lm_heats (hfl : l.stackTraces = false) (hI : Inv C J N mst bst ρ aa ca) (hGr : GRc N ga) (hi : i < N 1) (y9 : Int32) : ZIH l yL_heats wsL_heats mR9 (zX ea mi sa) D T (S := {Y : YS // PIc (C + 1) (ad 0) Y}) (lwR T av ga ma aa ca ta ++ iw J ad (hG ad T ea nof N mst bst ρ)) (fun Y => yW T ea av Y.1) [.ref (ad 0), .ref (av 3), .int (nI (i)), .int (y9)] 1 320 4480 := by
  have hi12 : i < 12 := (I_liB hI hi).1
  refine z_inIHC (cc := cL_heats) (maxL := 6) (rt := .boolean) (by decide +kernel) rfl (Nat.le_of_ble_eq_true rfl) ?_
  intro p e s m args below meth c sl9 A Q Z hX Mz9 hl9 hret
  have Z : zC p s m args c cL_heats 6 RL wsL_heats D T A := Z
  have hx := Z.1.1
  have hb := Z.1.2.1
  have hts := Z.1.2.2.2.2
  have hl9 : lv_has sl9 6 [(0, .ref (ad 0)), (1, .ref (av 3)), (2, .int (nI (i))), (3, .int (y9))] := hl9
  refine lv_sipush (v := 200) hx hb dL_heats_0 (by decide) ?_
  refine lv_iload_n hx hb dL_heats_3 rfl (lv_at hl9 3 rfl) ?_
  refine lv_sipush (v := 1101) hx hb dL_heats_4 (by decide) ?_
  obtain ⟨q1, b1, z1⟩ := ln_low2 l y9 1101 (by decide)
  refine z_callSi (As := [.int (y9), .int 1101]) (rest := [.int 200]) Z.1 z1 (va_cwS 2 hts gL_heats_L_low rfl rfl rfl (by decide +kernel) ⟨by decide, by decide⟩) rfl hl9.1 (Nat.le_of_ble_eq_true rfl) dL_heats_7 ⟨by show _ ≤ 320; omega, by show _ ≤ 4480; omega⟩ rfl ?_
  refine zn_iadd (a := 200) (b := q1) hx hb dL_heats_10 ?_
  refine lv_istore (lv' := [(4, .int (nI (200 + q1))), (0, .ref (ad 0)), (1, .ref (av 3)), (2, .int (nI (i))), (3, .int (y9))]) hx hb dL_heats_11 hl9 (by decide) rfl (fun sl9 hl9 => ?_)
  refine lv_aload_n hx hb dL_heats_13 rfl (lv_at hl9 1 rfl) ?_
  refine lv_iload_n hx hb dL_heats_14 rfl (lv_at hl9 3 rfl) ?_
  refine lv_iload hx hb dL_heats_15 (lv_at hl9 0 rfl) ?_
  refine lv_iconst (v := 1) hx hb dL_heats_17 (by decide) ?_
  refine lv_iload_n hx hb dL_heats_18 rfl (lv_at hl9 4 rfl) ?_
  refine lv_bipush (v := 11) hx hb dL_heats_19 (by decide) ?_
  refine lv_ishr hx hb dL_heats_21 ?_
  refine lv_bipush (v := 40) hx hb dL_heats_22 (by decide) ?_
  obtain ⟨q2, b2, z2⟩ := ln_low2 l (y9 >>> (11 &&& 31)) 40 (by decide)
  refine z_callSi (As := [.int (y9 >>> (11 &&& 31)), .int 40]) (rest := [.int 1, .int (nI (200 + q1)), .int (nI (i)), .ref (ad 0)]) Z.1 z2 (va_cwS 2 hts gL_heats_L_low rfl rfl rfl (by decide +kernel) ⟨by decide, by decide⟩) rfl hl9.1 (Nat.le_of_ble_eq_true rfl) dL_heats_24 ⟨by show _ ≤ 320; omega, by show _ ≤ 4480; omega⟩ rfl ?_
  refine zn_iadd (a := 1) (b := q2) hx hb dL_heats_27 ?_
  rcases hc_heat (l := l) (D := D) (T := T) (ea := ea) (mi := mi) (sa := sa) hfl hI hi (fn := 200 + q1) (m9 := 1 + q2) (by omega) (by omega) (by omega) (by omega) with ⟨hw1, hc1⟩ | ⟨β1, α1, hw1, h14, hI1⟩
  ·
    refine z_callW (As := [.ref (ad 0), .int (nI (i)), .int (nI (200 + q1)), .int (nI (1 + q2))]) (rest := []) (zX_k ea mi sa) hX Z Mz9 (hw1 _) (vx_cwSW 4 hts gL_heats_L_heat rfl rfl rfl (by decide +kernel) ⟨by decide, by decide⟩) rfl hl9.1 (Nat.le_of_ble_eq_true rfl) dL_heats_28 ⟨by show _ ≤ 320; omega, by show _ ≤ 4480; omega⟩ rfl (fun u9 Hp9 lc9 Mz9 => ?_)
    refine lv_istore (lv' := [(5, .int (-1000003)), (4, .int (nI (200 + q1))), (0, .ref (ad 0)), (1, .ref (av 3)), (2, .int (nI (i))), (3, .int (y9))]) hx hb dL_heats_31 hl9 (by decide) rfl (fun sl9 hl9 => ?_)
    refine lv_iload hx hb dL_heats_33 (lv_at hl9 0 rfl) ?_
    refine lv_ldc (v := (-1000003)) hx hb Z.1.2.2.2.1 (hts (.constant RL 28 (-1000003)) (by decide +kernel)) dL_heats_35 ?_
    refine lv_icmp_ne (tgt := 52) hx hb dL_heats_37 (by decide) (fun h => absurd h (by decide)) (fun _ => ?_)
    refine lv_aload_n hx hb dL_heats_40 rfl (lv_at hl9 3 rfl) ?_
    refine lv_iload_n hx hb dL_heats_41 rfl (lv_at hl9 4 rfl) ?_
    refine z_iald Z Mz9 3 (h0 := av 3) (n := 12) (f := ca) rfl (j := i) (by omega) (by decide) dL_heats_42 ?_
    refine lv_if_le (tgt := 50) hx hb dL_heats_43 (by decide) (fun h => absurd h (fun q => absurd (Int32.lt_of_lt_of_le hc1 q) Int32.lt_irrefl)) (fun _ => ?_)
    refine lv_iconst (v := 1) hx hb dL_heats_46 (by decide) ?_
    refine lv_goto (tgt := 51) hx hb dL_heats_47 (by decide) ?_
    exact hret _ _ _ _ _ sl9 _ _ (⟨((J, ad, N, mst, bst, ρ), ga, ma, aa, ca, ta), ⟨(I_le (Nat.le_succ C) hI), hGr, rfl⟩⟩) Mz9 rfl (rfl) rfl (by show _ ≤ 320; omega) (by show _ ≤ 4480; omega) dL_heats_51
  ·
    obtain ⟨ρ1, hρ1⟩ : ∃ q, q = upB ρ i β1 α1 (ρ (102 + 3 * i)) := ⟨_, rfl⟩
    rw [← hρ1] at hw1 hI1
    have e1 : ρ1 (100 + 3 * i) = β1 := by rw [hρ1]; exact upB_b
    rw [← e1] at h14 hw1
    obtain ⟨-, -, -, ⟨co, o1, o2, o3⟩, -⟩ := I_B hI1 hi
    rw [o3] at hw1
    refine z_callW (As := [.ref (ad 0), .int (nI (i)), .int (nI (200 + q1)), .int (nI (1 + q2))]) (rest := []) (zX_k ea mi sa) hX Z Mz9 (hw1 _) (vx_cwSW 4 hts gL_heats_L_heat rfl rfl rfl (by decide +kernel) ⟨by decide, by decide⟩) rfl hl9.1 (Nat.le_of_ble_eq_true rfl) dL_heats_28 ⟨by show _ ≤ 320; omega, by show _ ≤ 4480; omega⟩ rfl (fun u9 Hp9 lc9 Mz9 => ?_)
    refine lv_istore (lv' := [(5, .int (nI (co))), (4, .int (nI (200 + q1))), (0, .ref (ad 0)), (1, .ref (av 3)), (2, .int (nI (i))), (3, .int (y9))]) hx hb dL_heats_31 hl9 (by decide) rfl (fun sl9 hl9 => ?_)
    refine lv_iload hx hb dL_heats_33 (lv_at hl9 0 rfl) ?_
    refine lv_ldc (v := (-1000003)) hx hb Z.1.2.2.2.1 (hts (.constant RL 28 (-1000003)) (by decide +kernel)) dL_heats_35 ?_
    refine lv_icmp_ne (tgt := 52) hx hb dL_heats_37 (by decide) (fun _ => ?_) (fun h => absurd h (nn3 (by omega)))
    refine lv_aload_n hx hb dL_heats_52 rfl (lv_at hl9 3 rfl) ?_
    refine lv_iload_n hx hb dL_heats_53 rfl (lv_at hl9 4 rfl) ?_
    refine lv_dup2_11 hx hb dL_heats_54 rfl rfl ?_
    refine z_iald Z Mz9 3 (h0 := av 3) (n := 12) (f := ca) rfl (j := i) (by omega) (by decide) dL_heats_55 ?_
    refine lv_iconst (v := 1) hx hb dL_heats_56 (by decide) ?_
    refine lv_iadd hx hb dL_heats_57 ?_
    refine z_iast Z Mz9 3 (h0 := av 3) (n := 12) (f := ca) rfl (j := i) (x := (ca i) + 1) (by omega) (by decide) (ws' := lwR T av ga ma aa (upd ca i ((ca i) + 1)) ta ++ iw J ad (hG ad T ea nof N mst bst ρ1)) rfl dL_heats_58 (fun Hp9 lc9 Mz9 => ?_)
    refine lv_iload hx hb dL_heats_59 (lv_at hl9 0 rfl) ?_
    refine lv_aload_n hx hb dL_heats_61 rfl (lv_at hl9 2 rfl) ?_
    refine lv_iload_n hx hb dL_heats_62 rfl (lv_at hl9 4 rfl) ?_
    refine lv_iconst (v := 1) hx hb dL_heats_63 (by decide) ?_
    refine z_callW (As := [.ref (ad 0), .int (nI (i)), .int 1]) (rest := [.int (nI (co))]) (zX_k ea mi sa) hX Z Mz9 (hc_bIs1 hI1 hi _) (vx_cwSW 3 hts gL_heats_L_billetIs rfl rfl rfl (by decide +kernel) ⟨by decide, by decide⟩) rfl hl9.1 (Nat.le_of_ble_eq_true rfl) dL_heats_64 ⟨by show _ ≤ 320; omega, by show _ ≤ 4480; omega⟩ rfl (fun u9 Hp9 lc9 Mz9 => ?_)
    refine zn_top (y := nI (co)) (o3) ?_
    refine zn_icmp_ne (a := co) (b := co) (tgt := 117) (by omega) (by omega) hx hb dL_heats_67 (by decide) (fun h => absurd h (fun q => q rfl)) (fun _ => ?_)
    refine lv_aload_n hx hb dL_heats_70 rfl (lv_at hl9 2 rfl) ?_
    refine lv_iload_n hx hb dL_heats_71 rfl (lv_at hl9 4 rfl) ?_
    refine lv_bipush (v := 8) hx hb dL_heats_72 (by decide) ?_
    refine z_callW (As := [.ref (ad 0), .int (nI (i)), .int 8]) (rest := []) (zX_k ea mi sa) hX Z Mz9 (hc_bIs8 hI1 hi _) (vx_cwSW 3 hts gL_heats_L_billetIs rfl rfl rfl (by decide +kernel) ⟨by decide, by decide⟩) rfl hl9.1 (Nat.le_of_ble_eq_true rfl) dL_heats_74 ⟨by show _ ≤ 320; omega, by show _ ≤ 4480; omega⟩ rfl (fun u9 Hp9 lc9 Mz9 => ?_)
    refine zn_top (y := (-1)) (h14) ?_
    refine lv_iconst (v := (-1)) hx hb dL_heats_77 (by decide) ?_
    refine lv_icmp_ne (tgt := 117) hx hb dL_heats_78 (by decide) (fun h => absurd h (by decide)) (fun _ => ?_)
    refine lv_aload_n hx hb dL_heats_81 rfl (lv_at hl9 2 rfl) ?_
    refine lv_iload_n hx hb dL_heats_82 rfl (lv_at hl9 4 rfl) ?_
    refine lv_iconst (v := 0) hx hb dL_heats_83 (by decide) ?_
    refine z_callW (As := [.ref (ad 0), .int (nI (i)), .int 0]) (rest := []) (zX_k ea mi sa) hX Z Mz9 (hc_hard hI1 hi (j := 0) (by decide) _) (vx_cwSW 3 hts gL_heats_L_hardness rfl rfl rfl (by decide +kernel) ⟨by decide, by decide⟩) rfl hl9.1 (Nat.le_of_ble_eq_true rfl) dL_heats_84 ⟨by show _ ≤ 320; omega, by show _ ≤ 4480; omega⟩ rfl (fun u9 Hp9 lc9 Mz9 => ?_)
    refine zn_top (y := 0) (if_pos h14) ?_
    refine lv_if_ne (tgt := 117) hx hb dL_heats_87 (by decide) (fun h => absurd h (by decide)) (fun _ => ?_)
    refine lv_aload_n hx hb dL_heats_90 rfl (lv_at hl9 2 rfl) ?_
    refine lv_iload_n hx hb dL_heats_91 rfl (lv_at hl9 4 rfl) ?_
    refine lv_sipush (v := 200) hx hb dL_heats_92 (by decide) ?_
    refine z_callW (As := [.ref (ad 0), .int (nI (i)), .int 200]) (rest := []) (zX_k ea mi sa) hX Z Mz9 (hc_temper_n hfl hI1 hi (w := 200) (by decide) (by decide) h14 _) (vx_cwSW 3 hts gL_heats_L_temper rfl rfl rfl (by decide +kernel) ⟨by decide, by decide⟩) rfl hl9.1 (Nat.le_of_ble_eq_true rfl) dL_heats_95 ⟨by show _ ≤ 320; omega, by show _ ≤ 4480; omega⟩ rfl (fun u9 Hp9 lc9 Mz9 => ?_)
    refine lv_ldc (v := (-1000003)) hx hb Z.1.2.2.2.1 (hts (.constant RL 28 (-1000003)) (by decide +kernel)) dL_heats_98 ?_
    refine lv_icmp_ne (tgt := 117) hx hb dL_heats_100 (by decide) (fun h => absurd h (by decide)) (fun _ => ?_)
    refine lv_aload_n hx hb dL_heats_103 rfl (lv_at hl9 2 rfl) ?_
    refine lv_iload_n hx hb dL_heats_104 rfl (lv_at hl9 4 rfl) ?_
    refine z_callW (As := [.ref (ad 0), .int (nI (i))]) (rest := []) (zX_k ea mi sa) hX Z Mz9 (hc_test_n hfl hI1 hi h14 _) (vx_cwSW 2 hts gL_heats_L_test rfl rfl rfl (by decide +kernel) ⟨by decide, by decide⟩) rfl hl9.1 (Nat.le_of_ble_eq_true rfl) dL_heats_105 ⟨by show _ ≤ 320; omega, by show _ ≤ 4480; omega⟩ rfl (fun u9 Hp9 lc9 Mz9 => ?_)
    refine lv_ldc (v := (-1000003)) hx hb Z.1.2.2.2.1 (hts (.constant RL 28 (-1000003)) (by decide +kernel)) dL_heats_108 ?_
    refine lv_icmp_ne (tgt := 117) hx hb dL_heats_110 (by decide) (fun h => absurd h (by decide)) (fun _ => ?_)
    refine lv_iconst (v := 1) hx hb dL_heats_113 (by decide) ?_
    refine lv_goto (tgt := 118) hx hb dL_heats_114 (by decide) ?_
    exact hret _ _ _ _ _ sl9 _ _ (⟨((J, ad, N, mst, bst, ρ1), ga, ma, aa, upd ca i ((ca i) + 1), ta), ⟨(I_le (Nat.le_succ C) hI1), hGr, rfl⟩⟩) Mz9 rfl (rfl) rfl (by show _ ≤ 320; omega) (by show _ ≤ 4480; omega) dL_heats_118
end LAW2
