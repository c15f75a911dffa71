/-! ===== the law: numbers, the script, its rows ===== -/
def onI (x : Int32) : Nat → Int32
  | 0 => 0
  | n + 1 => onI x n + ((x >>> (nI n &&& 31)) &&& 1)
theorem onI_pop : ∀ p, p < 256 → onI (nI p) 8 = nI (pop p) := by decide +kernel
def lo (v : Int32) (n : Nat) : Nat := (v &&& 2147483647).toNatClampNeg % n
theorem lo_lt (v : Int32) {n : Nat} (h : 0 < n) : lo v n < n := Nat.mod_lt _ h
theorem and_mx (v : Int32) : ∃ m : Nat, m < 2 ^ 31 ∧ v &&& 2147483647 = nI m := by
  refine zI_of (fun h => ?_)
  have h1 : (v &&& 2147483647).toInt < 0 := by
    have := Int32.lt_iff_toInt_lt.mp h
    simpa using this
  have h2 : (v &&& 2147483647).toInt = (v &&& 2147483647).toBitVec.toInt := rfl
  rw [h2, BitVec.toInt_eq_toNat_cond] at h1
  have h3 : (v &&& 2147483647).toBitVec.toNat ≤ 2147483647 := by
    rw [Int32.toBitVec_and, BitVec.toNat_and]
    exact Nat.and_le_right
  have h4 := (v &&& 2147483647).toBitVec.isLt
  split at h1
  · omega
  · omega
theorem lo_eq (v : Int32) : ∃ m : Nat, m < 2 ^ 31 ∧ v &&& 2147483647 = nI m ∧ ∀ n, lo v n = m % n := by
  obtain ⟨m, m1, m2⟩ := and_mx v
  refine ⟨m, m1, m2, fun n => ?_⟩
  unfold lo
  rw [m2, nI_clamp m1]
set_option maxHeartbeats 4000000 in
set_option maxRecDepth 100000 in
theorem ln_low (l : Launch) (v : Int32) (n : Nat) (hn : 0 < n ∧ n < 2 ^ 31) : ZS l yL_low wsL_low (zrm 0 0) [.int v, .int (nI n)] (nI (lo v n)) := by
  obtain ⟨q, q1, q2, q3⟩ := lo_eq v
  refine z_inS (cc := cL_low) (maxL := 2) (rt := .int) (by decide +kernel) rfl (Nat.le_of_ble_eq_true rfl) ?_
  intro p e s m args below meth c sl9 Q Z hl9 hret
  have Z : CallFix p m c cL_low 2 s args wsL_low RL := Z
  have hx := Z.1
  have hb := Z.2.1
  have hts := Z.2.2.2.2
  generalize hH : s.heap = Hp9 at hret ⊢
  have hl9 : lv_has sl9 2 [(0, .int v), (1, .int (nI n))] := hl9
  refine lv_iload_n hx hb dL_low_0 rfl (lv_at hl9 0 rfl) ?_
  refine lv_ldc (v := (2147483647)) hx hb Z.2.2.2.1 (hts (.constant RL 9 (2147483647)) (by decide +kernel)) dL_low_1 ?_
  refine lv_iand hx hb dL_low_3 ?_
  refine zn_top (y := nI q) q2 ?_
  refine lv_iload_n hx hb dL_low_4 rfl (lv_at hl9 1 rfl) ?_
  refine zn_irem (a := q) (b := n) q1 hn.1 hn.2 hx hb dL_low_5 ?_
  exact hret _ sl9 _ (congrArg nI (q3 n).symm) rfl dL_low_6
set_option maxHeartbeats 4000000 in
set_option maxRecDepth 100000 in
theorem ln_on (l : Launch) (x : Int32) : ZS l yL_ones wsL_ones (zrm 0 0) [.int (x)] (onI x 8) := by
  refine z_inS (cc := cL_ones) (maxL := 3) (rt := .int) (by decide +kernel) rfl (Nat.le_of_ble_eq_true rfl) ?_
  intro p e s m args below meth c sl9 Q Z hl9 hret
  have Z : CallFix p m c cL_ones 3 s args wsL_ones RL := Z
  have hx := Z.1
  have hb := Z.2.1
  have hts := Z.2.2.2.2
  generalize hH : s.heap = Hp9 at hret ⊢
  have hl9 : lv_has sl9 3 [(0, .int (x))] := hl9
  refine lv_iconst (v := 0) hx hb dL_ones_0 (by decide) ?_
  refine lv_istore_n (lv' := [(1, .int 0), (0, .int (x))]) hx hb dL_ones_1 rfl hl9 (by decide) rfl (fun sl9 hl9 => ?_)
  refine lv_iconst (v := 0) hx hb dL_ones_2 (by decide) ?_
  refine lv_istore_n (lv' := [(2, .int 0), (1, .int 0), (0, .int (x))]) hx hb dL_ones_3 rfl hl9 (by decide) rfl (fun sl9 hl9 => ?_)
  have LP4_1 : ∀ (n4 k : Nat), k + n4 = 8 → ∀ (sl9 : Array Slot), True → lv_has sl9 3 [(0, .int (x)), (1, .int (onI x (k))), (2, .int (nI (k)))] → W p l e (zrm 0 0) s m args below meth c Hp9 [] 0 0 Q (F0 m 4 sl9 []) := by
    intro n4
    induction n4 with
    | zero =>
      intro k hk9 sl9 Mz9 hl9
      obtain rfl : 8 = k := by omega
      refine lv_iload_n hx hb dL_ones_4 rfl (lv_at hl9 2 rfl) ?_
      refine lv_bipush (v := 8) hx hb dL_ones_5 (by decide) ?_
      refine zn_icmp_ge (a := 8) (b := 8) (tgt := 24) (by omega) (by decide) hx hb dL_ones_7 (by decide) (fun _ => ?_) (fun h => absurd h (by omega))
      refine lv_iload_n hx hb dL_ones_24 rfl (lv_at hl9 1 rfl) ?_
      exact hret _ sl9 _ (rfl) (rfl) dL_ones_25
    | succ n4 ih4 =>
      intro k hk9 sl9 Mz9 hl9
      refine lv_iload_n hx hb dL_ones_4 rfl (lv_at hl9 2 rfl) ?_
      refine lv_bipush (v := 8) hx hb dL_ones_5 (by decide) ?_
      refine zn_icmp_ge (a := k) (b := 8) (tgt := 24) (by omega) (by decide) hx hb dL_ones_7 (by decide) (fun h => absurd h (by omega)) (fun _ => ?_)
      refine lv_iload_n hx hb dL_ones_10 rfl (lv_at hl9 1 rfl) ?_
      refine lv_iload_n hx hb dL_ones_11 rfl (lv_at hl9 0 rfl) ?_
      refine lv_iload_n hx hb dL_ones_12 rfl (lv_at hl9 2 rfl) ?_
      refine lv_ishr hx hb dL_ones_13 ?_
      refine lv_iconst (v := 1) hx hb dL_ones_14 (by decide) ?_
      refine lv_iand hx hb dL_ones_15 ?_
      refine lv_iadd hx hb dL_ones_16 ?_
      refine lv_istore_n (lv' := [(1, .int ((onI x (k)) + ((x >>> ((nI (k)) &&& 31)) &&& 1))), (0, .int (x)), (2, .int (nI (k)))]) hx hb dL_ones_17 rfl hl9 (by decide) rfl (fun sl9 hl9 => ?_)
      refine lv_iinc (v := nI (k + 1)) (lv' := [(2, .int (nI (k + 1))), (1, .int ((onI x (k)) + ((x >>> ((nI (k)) &&& 31)) &&& 1))), (0, .int (x))]) hx hb dL_ones_18 hl9 (k := 2) rfl (nI_add (k) 1) (by decide) rfl (fun sl9 hl9 => ?_)
      refine lv_goto (tgt := 4) hx hb dL_ones_21 (by decide) ?_
      exact ih4 (k + 1) (by omega)  _ trivial (lv_sub hl9 [2, 1, 0] rfl)
  exact LP4_1 (8 - 0) (0) (by omega)  _ trivial (lv_sub hl9 [2, 1, 0] rfl)
theorem ln_ones (l : Launch) {p : Nat} (h : p < 256) : ZS l yL_ones wsL_ones (zrm 0 0) [.int (nI p)] (nI (pop p)) := by
  have a := ln_on l (nI p)
  rw [onI_pop p h] at a
  exact a
theorem ln_ones4 (l : Launch) {p : Nat} (h : p < 256) (h4 : pop p = 4) : ZS l yL_ones wsL_ones (zrm 0 0) [.int (nI p)] 4 := by
  have a := ln_ones l h
  rw [h4] at a
  exact a
/-- the law's rows: counts, melts, areas, heats, steels -/
abbrev lwR (T : Nat → ClassId) (av : Nat → Nat) (ga ma aa ca ta : Nat → Int32) : va_W := [(av 0, .inl (T 0, 6, .inl ga)), (av 1, .inl (T 0, 12, .inl ma)), (av 2, .inl (T 0, 12, .inl aa)), (av 3, .inl (T 0, 12, .inl ca)), (av 4, .inl (T 0, 20, .inl ta))]
abbrev mR9 : Room := zrmc 10 400 320 4480
abbrev aR9 : Room := zrmc 11 450 400 5600
/-- the counts that the law keeps -/
def GRc (N : Nat → Nat) (ga : Nat → Int32) : Prop := ga 0 = nI (N 0) ∧ ga 1 = nI (N 1) ∧ ga 2 = nI (N 2) ∧ ga 3 = nI (N 3) ∧ ga 4 = nI (N 4)
def lst (hv : Nat → Nat) : Nat → Nat
  | 0 => 99
  | k + 1 => if hv k < lst hv k then hv k else lst hv k
theorem lst_le (hv : Nat → Nat) : ∀ k, lst hv k ≤ 99
  | 0 => Nat.le_refl _
  | k + 1 => by
    have := lst_le hv k
    rw [lst]
    split <;> omega
theorem lst_mn {hv : Nat → Nat} (h : ∀ j, j < 8 → hv j ≤ 70) : ∀ k, k < 8 → lst hv (k + 1) = mn8 hv k
  | 0, _ => by
    have := h 0 (by decide)
    rw [lst, lst, mn8, if_pos (by omega)]
  | k + 1, hk => by
    have := h (k + 1) hk
    rw [lst, mn8, lst_mn h k (by omega)]
    by_cases q : hv (k + 1) < mn8 hv k
    · rw [if_pos q, Nat.min_eq_left (by omega)]
    · rw [if_neg q, Nat.min_eq_right (by omega)]
theorem ldneg {n3 : Nat} {x : Int32} (h : x = -1 ∨ ∃ ld, ld < n3 ∧ x = nI ld) (c : ¬ 0 ≤ x) (hn : n3 ≤ 20) : x = -1 := by
  rcases h with h | ⟨ld, h1, h2⟩
  · exact h
  · refine absurd ?_ c
    rw [h2]
    exact (nI_leI (a := 0) (by decide) (by omega)).mpr (Nat.zero_le _)
theorem ldpos {n3 : Nat} {x : Int32} (h : x = -1 ∨ ∃ ld, ld < n3 ∧ x = nI ld) (hn : n3 ≤ 20) : ¬ x < -1 ∧ ¬ nI n3 ≤ x ∧ (¬ x = -1 → ¬ x < 0) := by
  rcases h with h | ⟨ld, h1, h2⟩
  · subst h
    refine ⟨by decide, fun q => ?_, fun q => absurd rfl q⟩
    have : (0 : Int32) ≤ nI n3 := (nI_leI (a := 0) (by decide) (by omega)).mpr (Nat.zero_le _)
    exact absurd (Int32.le_trans this q) (by decide)
  · subst h2
    refine ⟨fun q => ?_, fun q => ?_, fun _ q => nI_pos (show ld < 2 ^ 31 by omega) q⟩
    · exact nI_pos (show ld < 2 ^ 31 by omega) (Int32.lt_trans q (by decide))
    · have := (nI_leI (by omega) (by omega)).mp q
      omega
section LAW1
variable {l : Launch} {D : va_G} {T : Nat → ClassId} {ea mi : Nat} {sa : Nat → Nat}
variable {C : Nat} {ad : Nat → Nat} {J : List Nat} {N mst bst : Nat → Nat} {ρ : Nat → Nat → Int32} {ga ma aa ca ta : Nat → Int32} {av : Nat → Nat} {i : Nat}
set_option maxHeartbeats 4000000 in
set_option maxRecDepth 100000 in
theorem lm_isBillet (hfl : l.stackTraces = false) (hCb : C < 2 ^ 30) (hI : Inv C J N mst bst ρ aa ca) (hg3 : ga 3 = nI (N 3)) (hi : i < N 1) : ZIH l yL_isBillet wsL_isBillet mR9 (zX ea mi sa) D T (S := Unit) (lwR T av ga ma aa ca ta ++ iw J ad (hG ad T ea nof N mst bst ρ)) (fun _ => lwR T av ga ma aa ca ta ++ iw J ad (hG ad T ea nof N mst bst ρ)) [.ref (ad 0), .ref (av 0), .ref (av 2), .ref (av 3), .int (nI i)] 1 320 4480 := by
  obtain ⟨hmo, ⟨Aa, A1, A2, A3, v, x, y, z, v1, v2, v3, v4, v5⟩, ⟨sk, k1, k2, k3⟩, ⟨co, o1, o2, o3⟩, ⟨b9, w9⟩, ⟨gr, r1, r2, r3⟩, ⟨lp, -, p2, p3⟩, hcr, ⟨pt, t1, t2, t3⟩, hld, b17⟩ := I_B hI hi
  have hi12 : i < 12 := (I_liB hI hi).1
  have hN3 := hI.2.2.2.1.1
  obtain ⟨al, al1, al2⟩ := id v1
  obtain ⟨hv, hv1, hv0⟩ := hdv_n hN3 hld
  have hL := LDc_ld hld
  have lst8 : lst hv 8 = mn8 hv 7 := lst_mn (fun j hj => (hv1 j hj).2) 7 (by decide)
  have lst7 : lst hv 8 ≤ 70 := by
    have q := (hv1 7 (by decide)).2
    have q2 : lst hv 8 = if hv 7 < lst hv 7 then hv 7 else lst hv 7 := rfl
    rw [q2]
    split <;> omega
  obtain ⟨cr, hcr9⟩ : ∃ cr : Int32, (if ρ (100 + 3 * i) 12 = 0 then 0 else 1) = cr := ⟨_, rfl⟩
  have hcr0 : cr = 0 → ρ (100 + 3 * i) 12 = 0 := fun q => Classical.byContradiction (fun q2 => by rw [if_neg q2] at hcr9; rw [q] at hcr9; exact absurd hcr9 (by decide))
  have hcr1 : ¬ cr = 0 → cr = 1 := fun q => by
    by_cases q2 : ρ (100 + 3 * i) 12 = 0
    · rw [if_pos q2] at hcr9; exact absurd hcr9.symm q
    · rw [if_neg q2] at hcr9; exact hcr9.symm
  have hcr2 : ¬ cr = 0 → ¬ ρ (100 + 3 * i) 12 = 0 := fun q q2 => q (by rw [← hcr9, if_pos q2])
  refine z_inIHC (cc := cL_isBillet) (maxL := 14) (rt := .boolean) (by decide +kernel) rfl (Nat.le_of_ble_eq_true rfl) ?_
  intro p e s m args below meth c sl9 A Q Z hX Mz9 hl9 hret
  have Z : zC p s m args c cL_isBillet 14 RL wsL_isBillet D T A := Z
  have hx := Z.1.1
  have hb := Z.1.2.1
  have hts := Z.1.2.2.2.2
  have hl9 : lv_has sl9 14 [(0, .ref (ad 0)), (1, .ref (av 0)), (2, .ref (av 2)), (3, .ref (av 3)), (4, .int (nI (i)))] := hl9
  refine lv_iconst (v := 0) hx hb dL_isBillet_0 (by decide) ?_
  refine lv_istore (lv' := [(5, .int 0), (0, .ref (ad 0)), (1, .ref (av 0)), (2, .ref (av 2)), (3, .ref (av 3)), (4, .int (nI (i)))]) hx hb dL_isBillet_1 hl9 (by decide) rfl (fun sl9 hl9 => ?_)
  refine lv_aload_n hx hb dL_isBillet_3 rfl (lv_at hl9 1 rfl) ?_
  refine lv_iload hx hb dL_isBillet_4 (lv_at hl9 5 rfl) ?_
  refine lv_bipush (v := 8) hx hb dL_isBillet_6 (by decide) ?_
  refine z_callW (As := [.ref (ad 0), .int (nI (i)), .int 8]) (rest := []) (zX_k ea mi sa) hX Z Mz9 (hc_bIs8 hI hi _) (vx_cwSW 3 hts gL_isBillet_L_billetIs rfl rfl rfl (by decide +kernel) ⟨by decide, by decide⟩) rfl hl9.1 (Nat.le_of_ble_eq_true rfl) dL_isBillet_8 ⟨by show _ ≤ 320; omega, by show _ ≤ 4480; omega⟩ rfl (fun u9 Hp9 lc9 Mz9 => ?_)
  refine lv_istore (lv' := [(6, .int (ρ (100 + 3 * i) 14)), (5, .int 0), (0, .ref (ad 0)), (1, .ref (av 0)), (2, .ref (av 2)), (3, .ref (av 3)), (4, .int (nI (i)))]) hx hb dL_isBillet_11 hl9 (by decide) rfl (fun sl9 hl9 => ?_)
  refine lv_aload_n hx hb dL_isBillet_13 rfl (lv_at hl9 2 rfl) ?_
  refine lv_iload hx hb dL_isBillet_14 (lv_at hl9 6 rfl) ?_
  refine z_callW (As := [.ref (ad 0), .int (nI (i))]) (rest := []) (zX_k ea mi sa) hX Z Mz9 (hc_bal hI hi _) (vx_cwSW 2 hts gL_isBillet_L_balances rfl rfl rfl (by decide +kernel) ⟨by decide, by decide⟩) rfl hl9.1 (Nat.le_of_ble_eq_true rfl) dL_isBillet_16 ⟨by show _ ≤ 320; omega, by show _ ≤ 4480; omega⟩ rfl (fun u9 Hp9 lc9 Mz9 => ?_)
  refine lv_iconst (v := 1) hx hb dL_isBillet_19 (by decide) ?_
  refine lv_icmp_ne (tgt := 67) hx hb dL_isBillet_20 (by decide) (fun h => absurd h (by decide)) (fun _ => ?_)
  refine lv_aload_n hx hb dL_isBillet_23 rfl (lv_at hl9 2 rfl) ?_
  refine lv_iload hx hb dL_isBillet_24 (lv_at hl9 6 rfl) ?_
  refine lv_bipush (v := 9) hx hb dL_isBillet_26 (by decide) ?_
  refine z_callW (As := [.ref (ad 0), .int (nI (i)), .int 9]) (rest := []) (zX_k ea mi sa) hX Z Mz9 (hc_bIs9 hfl hI hi _) (vx_cwSW 3 hts gL_isBillet_L_billetIs rfl rfl rfl (by decide +kernel) ⟨by decide, by decide⟩) rfl hl9.1 (Nat.le_of_ble_eq_true rfl) dL_isBillet_28 ⟨by show _ ≤ 320; omega, by show _ ≤ 4480; omega⟩ rfl (fun u9 Hp9 lc9 Mz9 => ?_)
  refine lv_ldc (v := (-1000002)) hx hb Z.1.2.2.2.1 (hts (.constant RL 21 (-1000002)) (by decide +kernel)) dL_isBillet_31 ?_
  refine lv_icmp_ne (tgt := 67) hx hb dL_isBillet_33 (by decide) (fun h => absurd h (by decide)) (fun _ => ?_)
  refine lv_aload_n hx hb dL_isBillet_36 rfl (lv_at hl9 2 rfl) ?_
  refine lv_iload hx hb dL_isBillet_37 (lv_at hl9 6 rfl) ?_
  refine lv_bipush (v := 8) hx hb dL_isBillet_39 (by decide) ?_
  refine z_callW (As := [.ref (ad 0), .int (nI (i)), .int 8]) (rest := []) (zX_k ea mi sa) hX Z Mz9 (hc_area8 hfl hI hi _) (vx_cwSW 3 hts gL_isBillet_L_area rfl rfl rfl (by decide +kernel) ⟨by decide, by decide⟩) rfl hl9.1 (Nat.le_of_ble_eq_true rfl) dL_isBillet_41 ⟨by show _ ≤ 320; omega, by show _ ≤ 4480; omega⟩ rfl (fun u9 Hp9 lc9 Mz9 => ?_)
  refine lv_ldc (v := (-1000001)) hx hb Z.1.2.2.2.1 (hts (.constant RL 18 (-1000001)) (by decide +kernel)) dL_isBillet_44 ?_
  refine lv_icmp_ne (tgt := 67) hx hb dL_isBillet_46 (by decide) (fun h => absurd h (by decide)) (fun _ => ?_)
  refine lv_iload hx hb dL_isBillet_49 (lv_at hl9 0 rfl) ?_
  refine lv_iconst (v := (-1)) hx hb dL_isBillet_51 (by decide) ?_
  refine lv_icmp_lt (tgt := 67) hx hb dL_isBillet_52 (by decide) (fun h => absurd h ((ldpos hL hN3).1)) (fun _ => ?_)
  refine lv_iload hx hb dL_isBillet_55 (lv_at hl9 0 rfl) ?_
  refine lv_aload_n hx hb dL_isBillet_57 rfl (lv_at hl9 3 rfl) ?_
  refine lv_iconst (v := 3) hx hb dL_isBillet_58 (by decide) ?_
  refine z_iald Z Mz9 0 (h0 := av 0) (n := 6) (f := ga) rfl (j := 3) (by decide) (by decide) dL_isBillet_59 ?_
  refine zn_top (y := nI (N 3)) (hg3) ?_
  refine lv_icmp_ge (tgt := 67) hx hb dL_isBillet_60 (by decide) (fun h => absurd h ((ldpos hL hN3).2.1)) (fun _ => ?_)
  refine lv_iconst (v := 1) hx hb dL_isBillet_63 (by decide) ?_
  refine lv_goto (tgt := 68) hx hb dL_isBillet_64 (by decide) ?_
  refine lv_istore (lv' := [(7, .int 1), (6, .int (ρ (100 + 3 * i) 14)), (5, .int 0), (0, .ref (ad 0)), (1, .ref (av 0)), (2, .ref (av 2)), (3, .ref (av 3)), (4, .int (nI (i)))]) hx hb dL_isBillet_68 hl9 (by decide) rfl (fun sl9 hl9 => ?_)
  refine lv_bipush (v := 99) hx hb dL_isBillet_70 (by decide) ?_
  refine lv_istore (lv' := [(8, .int 99), (7, .int 1), (6, .int (ρ (100 + 3 * i) 14)), (5, .int 0), (0, .ref (ad 0)), (1, .ref (av 0)), (2, .ref (av 2)), (3, .ref (av 3)), (4, .int (nI (i)))]) hx hb dL_isBillet_72 hl9 (by decide) rfl (fun sl9 hl9 => ?_)
  refine lv_iconst (v := 0) hx hb dL_isBillet_74 (by decide) ?_
  refine lv_istore (lv' := [(9, .int 0), (8, .int 99), (7, .int 1), (6, .int (ρ (100 + 3 * i) 14)), (5, .int 0), (0, .ref (ad 0)), (1, .ref (av 0)), (2, .ref (av 2)), (3, .ref (av 3)), (4, .int (nI (i)))]) hx hb dL_isBillet_75 hl9 (by decide) rfl (fun sl9 hl9 => ?_)
  have LP77_1 : ∀ (n77 k : Nat), k + n77 = 8 → ∀ (Hp9 : Heap) (lc9 : List Loc) (sl9 : Array Slot), zM D A s.heap (lwR T av ga ma aa ca ta ++ iw J ad (hG ad T ea nof N mst bst ρ)) Hp9 lc9 → lv_has sl9 14 [(0, .ref (ad 0)), (1, .ref (av 0)), (2, .ref (av 2)), (3, .ref (av 3)), (4, .int (nI (i))), (5, .int (nI (sm8 al k))), (6, .int (ρ (100 + 3 * i) 14)), (7, .int 1), (8, .int (nI (lst hv k))), (9, .int (nI (k)))] → W p l e mR9 s m args below meth c Hp9 lc9 (20 + 10 * k) (280 + 140 * k) Q (F0 m 77 sl9 []) := by
    intro n77
    induction n77 with
    | zero =>
      intro k hk9 Hp9 lc9 sl9 Mz9 hl9
      obtain rfl : 8 = k := by omega
      refine lv_iload hx hb dL_isBillet_77 (lv_at hl9 9 rfl) ?_
      refine lv_bipush (v := 8) hx hb dL_isBillet_79 (by decide) ?_
      refine zn_icmp_ge (a := 8) (b := 8) (tgt := 171) (by omega) (by decide) hx hb dL_isBillet_81 (by decide) (fun _ => ?_) (fun h => absurd h (by omega))
      refine lv_aload_n hx hb dL_isBillet_171 rfl (lv_at hl9 0 rfl) ?_
      refine lv_iload hx hb dL_isBillet_172 (lv_at hl9 4 rfl) ?_
      refine lv_iconst (v := 0) hx hb dL_isBillet_174 (by decide) ?_
      refine z_callW (As := [.ref (ad 0), .int (nI (i)), .int 0]) (rest := []) (zX_k ea mi sa) hX Z Mz9 (hc_bIs0 hI hi _) (vx_cwSW 3 hts gL_isBillet_L_billetIs rfl rfl rfl (by decide +kernel) ⟨by decide, by decide⟩) rfl hl9.1 (Nat.le_of_ble_eq_true rfl) dL_isBillet_175 ⟨by show _ ≤ 320; omega, by show _ ≤ 4480; omega⟩ rfl (fun u9 Hp9 lc9 Mz9 => ?_)
      refine zn_top (y := nI (sk)) (k3) ?_
      refine lv_istore (lv' := [(9, .int (nI (sk))), (0, .ref (ad 0)), (1, .ref (av 0)), (2, .ref (av 2)), (3, .ref (av 3)), (4, .int (nI (i))), (5, .int (nI (sm8 al 8))), (6, .int (ρ (100 + 3 * i) 14)), (7, .int 1), (8, .int (nI (lst hv 8)))]) hx hb dL_isBillet_178 hl9 (by decide) rfl (fun sl9 hl9 => ?_)
      refine lv_aload_n hx hb dL_isBillet_180 rfl (lv_at hl9 1 rfl) ?_
      refine lv_iload hx hb dL_isBillet_181 (lv_at hl9 5 rfl) ?_
      refine lv_iconst (v := 1) hx hb dL_isBillet_183 (by decide) ?_
      refine z_callW (As := [.ref (ad 0), .int (nI (i)), .int 1]) (rest := []) (zX_k ea mi sa) hX Z Mz9 (hc_bIs1 hI hi _) (vx_cwSW 3 hts gL_isBillet_L_billetIs rfl rfl rfl (by decide +kernel) ⟨by decide, by decide⟩) rfl hl9.1 (Nat.le_of_ble_eq_true rfl) dL_isBillet_184 ⟨by show _ ≤ 320; omega, by show _ ≤ 4480; omega⟩ rfl (fun u9 Hp9 lc9 Mz9 => ?_)
      refine zn_top (y := nI (co)) (o3) ?_
      refine lv_istore (lv' := [(10, .int (nI (co))), (9, .int (nI (sk))), (0, .ref (ad 0)), (1, .ref (av 0)), (2, .ref (av 2)), (3, .ref (av 3)), (4, .int (nI (i))), (5, .int (nI (sm8 al 8))), (6, .int (ρ (100 + 3 * i) 14)), (7, .int 1), (8, .int (nI (lst hv 8)))]) hx hb dL_isBillet_187 hl9 (by decide) rfl (fun sl9 hl9 => ?_)
      refine lv_aload_n hx hb dL_isBillet_189 rfl (lv_at hl9 2 rfl) ?_
      refine lv_iload hx hb dL_isBillet_190 (lv_at hl9 6 rfl) ?_
      refine lv_iconst (v := 4) hx hb dL_isBillet_192 (by decide) ?_
      refine z_callW (As := [.ref (ad 0), .int (nI (i)), .int 4]) (rest := []) (zX_k ea mi sa) hX Z Mz9 (hc_bIs4 hI hi _) (vx_cwSW 3 hts gL_isBillet_L_billetIs rfl rfl rfl (by decide +kernel) ⟨by decide, by decide⟩) rfl hl9.1 (Nat.le_of_ble_eq_true rfl) dL_isBillet_193 ⟨by show _ ≤ 320; omega, by show _ ≤ 4480; omega⟩ rfl (fun u9 Hp9 lc9 Mz9 => ?_)
      refine zn_top (y := nI (gr)) (r3) ?_
      refine lv_istore (lv' := [(11, .int (nI (gr))), (10, .int (nI (co))), (9, .int (nI (sk))), (0, .ref (ad 0)), (1, .ref (av 0)), (2, .ref (av 2)), (3, .ref (av 3)), (4, .int (nI (i))), (5, .int (nI (sm8 al 8))), (6, .int (ρ (100 + 3 * i) 14)), (7, .int 1), (8, .int (nI (lst hv 8)))]) hx hb dL_isBillet_196 hl9 (by decide) rfl (fun sl9 hl9 => ?_)
      refine lv_aload_n hx hb dL_isBillet_198 rfl (lv_at hl9 3 rfl) ?_
      refine lv_iload hx hb dL_isBillet_199 (lv_at hl9 7 rfl) ?_
      refine lv_bipush (v := 6) hx hb dL_isBillet_201 (by decide) ?_
      refine z_callW (As := [.ref (ad 0), .int (nI (i)), .int 6]) (rest := []) (zX_k ea mi sa) hX Z Mz9 (hc_bIs6 hI hi _) (vx_cwSW 3 hts gL_isBillet_L_billetIs rfl rfl rfl (by decide +kernel) ⟨by decide, by decide⟩) rfl hl9.1 (Nat.le_of_ble_eq_true rfl) dL_isBillet_203 ⟨by show _ ≤ 320; omega, by show _ ≤ 4480; omega⟩ rfl (fun u9 Hp9 lc9 Mz9 => ?_)
      refine zn_top (y := cr) (hcr9) ?_
      refine lv_istore (lv' := [(12, .int (cr)), (11, .int (nI (gr))), (10, .int (nI (co))), (9, .int (nI (sk))), (0, .ref (ad 0)), (1, .ref (av 0)), (2, .ref (av 2)), (3, .ref (av 3)), (4, .int (nI (i))), (5, .int (nI (sm8 al 8))), (6, .int (ρ (100 + 3 * i) 14)), (7, .int 1), (8, .int (nI (lst hv 8)))]) hx hb dL_isBillet_206 hl9 (by decide) rfl (fun sl9 hl9 => ?_)
      refine lv_aload_n hx hb dL_isBillet_208 rfl (lv_at hl9 4 rfl) ?_
      refine lv_iload hx hb dL_isBillet_209 (lv_at hl9 8 rfl) ?_
      refine lv_iload hx hb dL_isBillet_211 (lv_at hl9 12 rfl) ?_
      obtain ⟨pk1, hpk1, hpw1⟩ := hc_paper (l := l) (D := D) (T := T) (ea := ea) (mi := mi) (sa := sa) hCb hI hi (n := lst hv 8) (by omega)
      refine z_callW (As := [.ref (ad 0), .int (nI (i)), .int (nI (lst hv 8))]) (rest := []) (zX_k ea mi sa) hX Z Mz9 (hpw1 _) (vx_cwSW 3 hts gL_isBillet_L_paper rfl rfl rfl (by decide +kernel) ⟨by decide, by decide⟩) rfl hl9.1 (Nat.le_of_ble_eq_true rfl) dL_isBillet_213 ⟨by show _ ≤ 320; omega, by show _ ≤ 4480; omega⟩ rfl (fun u9 Hp9 lc9 Mz9 => ?_)
      refine lv_istore (lv' := [(13, .int (pk1)), (12, .int (cr)), (11, .int (nI (gr))), (10, .int (nI (co))), (9, .int (nI (sk))), (0, .ref (ad 0)), (1, .ref (av 0)), (2, .ref (av 2)), (3, .ref (av 3)), (4, .int (nI (i))), (5, .int (nI (sm8 al 8))), (6, .int (ρ (100 + 3 * i) 14)), (7, .int 1), (8, .int (nI (lst hv 8)))]) hx hb dL_isBillet_216 hl9 (by decide) rfl (fun sl9 hl9 => ?_)
      have hpc : ¬ cr = 0 → pk1 = -1 := fun q => hpk1.1.elim id (fun q2 => absurd q2.1 (hcr2 q))
      have hpl : ¬ pk1 = -1 → ¬ ρ (100 + 3 * i) 14 < 0 := fun q => (ldpos hL hN3).2.2 (hpk1.1.elim (fun q2 => absurd q2 q) (fun q2 => q2.2.2))
      have hlp : ¬ pk1 = -1 → lp = 0 := fun q => hpk1.1.elim (fun q2 => absurd q2 q) (fun q2 => (nI_eq (show lp < 2 ^ 31 by omega) (by decide)).mp (p3.symm.trans q2.2.1))
      refine lv_iload hx hb dL_isBillet_218 (lv_at hl9 12 rfl) ?_
      refine lv_if_eq (tgt := 393) hx hb dL_isBillet_220 (by decide) (fun h => absurd h (by decide)) (fun _ => ?_)
      refine lv_iload hx hb dL_isBillet_223 (lv_at hl9 10 rfl) ?_
      refine lv_aload_n hx hb dL_isBillet_225 rfl (lv_at hl9 5 rfl) ?_
      refine lv_iload hx hb dL_isBillet_226 (lv_at hl9 9 rfl) ?_
      refine lv_iconst (v := 2) hx hb dL_isBillet_228 (by decide) ?_
      refine z_callW (As := [.ref (ad 0), .int (nI (i)), .int 2]) (rest := [.int (nI (sm8 al 8))]) (zX_k ea mi sa) hX Z Mz9 (hc_bIs2 hI hi _) (vx_cwSW 3 hts gL_isBillet_L_billetIs rfl rfl rfl (by decide +kernel) ⟨by decide, by decide⟩) rfl hl9.1 (Nat.le_of_ble_eq_true rfl) dL_isBillet_229 ⟨by show _ ≤ 320; omega, by show _ ≤ 4480; omega⟩ rfl (fun u9 Hp9 lc9 Mz9 => ?_)
      refine zn_top (y := nI (sm8 al 8)) ((vS_VO v1).trans (congrArg nI al2.symm)) ?_
      refine zn_icmp_ne (a := sm8 al 8) (b := sm8 al 8) (tgt := 393) (by omega) (by omega) hx hb dL_isBillet_232 (by decide) (fun h => absurd h (fun q => q rfl)) (fun _ => ?_)
      refine lv_iload hx hb dL_isBillet_235 (lv_at hl9 10 rfl) ?_
      refine lv_bipush (v := 8) hx hb dL_isBillet_237 (by decide) ?_
      refine lv_aload_n hx hb dL_isBillet_239 rfl (lv_at hl9 7 rfl) ?_
      refine lv_iload hx hb dL_isBillet_240 (lv_at hl9 9 rfl) ?_
      refine z_iald Z Mz9 2 (h0 := av 2) (n := 12) (f := aa) rfl (j := i) (by omega) (by decide) dL_isBillet_242 ?_
      refine zn_top (y := nI (Aa)) (A2) ?_
      refine zn_imul (a := 8) (b := Aa) hx hb dL_isBillet_243 ?_
      refine zn_icmp_gt (a := sm8 al 8) (b := 8 * Aa) (tgt := 393) (by omega) (by omega) hx hb dL_isBillet_244 (by decide) (fun h => absurd h (by omega)) (fun _ => ?_)
      refine lv_iload hx hb dL_isBillet_247 (lv_at hl9 4 rfl) ?_
      refine lv_bipush (v := 20) hx hb dL_isBillet_249 (by decide) ?_
      refine zn_icmp_lt (a := sk) (b := 20) (tgt := 393) (by omega) (by decide) hx hb dL_isBillet_251 (by decide) (fun h => absurd h (by omega)) (fun _ => ?_)
      refine lv_iload hx hb dL_isBillet_254 (lv_at hl9 4 rfl) ?_
      refine lv_sipush (v := 1300) hx hb dL_isBillet_256 (by decide) ?_
      refine zn_icmp_gt (a := sk) (b := 1300) (tgt := 393) (by omega) (by decide) hx hb dL_isBillet_259 (by decide) (fun h => absurd h (by omega)) (fun _ => ?_)
      refine lv_iload hx hb dL_isBillet_262 (lv_at hl9 3 rfl) ?_
      refine lv_bipush (v := 20) hx hb dL_isBillet_264 (by decide) ?_
      refine zn_icmp_lt (a := co) (b := 20) (tgt := 393) (by omega) (by decide) hx hb dL_isBillet_266 (by decide) (fun h => absurd h (by omega)) (fun _ => ?_)
      refine lv_iload hx hb dL_isBillet_269 (lv_at hl9 3 rfl) ?_
      refine lv_sipush (v := 1300) hx hb dL_isBillet_271 (by decide) ?_
      refine zn_icmp_gt (a := co) (b := 1300) (tgt := 393) (by omega) (by decide) hx hb dL_isBillet_274 (by decide) (fun h => absurd h (by omega)) (fun _ => ?_)
      refine lv_aload_n hx hb dL_isBillet_277 rfl (lv_at hl9 5 rfl) ?_
      refine lv_iload hx hb dL_isBillet_278 (lv_at hl9 9 rfl) ?_
      refine lv_iconst (v := 3) hx hb dL_isBillet_280 (by decide) ?_
      refine z_callW (As := [.ref (ad 0), .int (nI (i)), .int 3]) (rest := []) (zX_k ea mi sa) hX Z Mz9 (hc_bIs3 hI hi _) (vx_cwSW 3 hts gL_isBillet_L_billetIs rfl rfl rfl (by decide +kernel) ⟨by decide, by decide⟩) rfl hl9.1 (Nat.le_of_ble_eq_true rfl) dL_isBillet_281 ⟨by show _ ≤ 320; omega, by show _ ≤ 4480; omega⟩ rfl (fun u9 Hp9 lc9 Mz9 => ?_)
      refine lv_aload_n hx hb dL_isBillet_284 rfl (lv_at hl9 8 rfl) ?_
      refine lv_iload hx hb dL_isBillet_285 (lv_at hl9 9 rfl) ?_
      refine z_iald Z Mz9 3 (h0 := av 3) (n := 12) (f := ca) rfl (j := i) (by omega) (by decide) dL_isBillet_287 ?_
      refine lv_icmp_ne (tgt := 393) hx hb dL_isBillet_288 (by decide) (fun h => absurd h (fun q => q b9)) (fun _ => ?_)
      refine lv_iload hx hb dL_isBillet_291 (lv_at hl9 2 rfl) ?_
      refine lv_iconst (v := 5) hx hb dL_isBillet_293 (by decide) ?_
      refine zn_icmp_lt (a := gr) (b := 5) (tgt := 393) (by omega) (by decide) hx hb dL_isBillet_294 (by decide) (fun h => absurd h (by omega)) (fun _ => ?_)
      refine lv_iload hx hb dL_isBillet_297 (lv_at hl9 2 rfl) ?_
      refine lv_sipush (v := 200) hx hb dL_isBillet_299 (by decide) ?_
      refine zn_icmp_gt (a := gr) (b := 200) (tgt := 393) (by omega) (by decide) hx hb dL_isBillet_302 (by decide) (fun h => absurd h (by omega)) (fun _ => ?_)
      refine lv_aload_n hx hb dL_isBillet_305 rfl (lv_at hl9 5 rfl) ?_
      refine lv_iload hx hb dL_isBillet_306 (lv_at hl9 9 rfl) ?_
      refine lv_iconst (v := 5) hx hb dL_isBillet_308 (by decide) ?_
      refine z_callW (As := [.ref (ad 0), .int (nI (i)), .int 5]) (rest := []) (zX_k ea mi sa) hX Z Mz9 (hc_bIs5 hI hi _) (vx_cwSW 3 hts gL_isBillet_L_billetIs rfl rfl rfl (by decide +kernel) ⟨by decide, by decide⟩) rfl hl9.1 (Nat.le_of_ble_eq_true rfl) dL_isBillet_309 ⟨by show _ ≤ 320; omega, by show _ ≤ 4480; omega⟩ rfl (fun u9 Hp9 lc9 Mz9 => ?_)
      refine zn_top (y := nI (lp)) (p3) ?_
      refine zn_if_lt (a := lp) (tgt := 393) (by omega) hx hb dL_isBillet_312 (by decide) (fun h => absurd h (fun q => q)) (fun _ => ?_)
      refine lv_iload hx hb dL_isBillet_315 (lv_at hl9 1 rfl) ?_
      refine lv_if_eq (tgt := 332) hx hb dL_isBillet_317 (by decide) (fun c_1 => ?_) (fun c_1 => ?_)
      ·
        refine lv_aload_n hx hb dL_isBillet_332 rfl (lv_at hl9 5 rfl) ?_
        refine lv_iload hx hb dL_isBillet_333 (lv_at hl9 9 rfl) ?_
        refine lv_bipush (v := 7) hx hb dL_isBillet_335 (by decide) ?_
        refine z_callW (As := [.ref (ad 0), .int (nI (i)), .int 7]) (rest := []) (zX_k ea mi sa) hX Z Mz9 (hc_bIs7 hI hi _) (vx_cwSW 3 hts gL_isBillet_L_billetIs rfl rfl rfl (by decide +kernel) ⟨by decide, by decide⟩) rfl hl9.1 (Nat.le_of_ble_eq_true rfl) dL_isBillet_337 ⟨by show _ ≤ 320; omega, by show _ ≤ 4480; omega⟩ rfl (fun u9 Hp9 lc9 Mz9 => ?_)
        refine zn_top (y := nI (pt)) (t3) ?_
        refine z_callSi (As := [.int (nI (pt))]) (rest := []) Z.1 (ln_ones4 l t1 t2) (va_cwS 1 hts gL_isBillet_L_ones rfl rfl rfl (by decide +kernel) ⟨by decide, by decide⟩) rfl hl9.1 (Nat.le_of_ble_eq_true rfl) dL_isBillet_340 ⟨by show _ ≤ 320; omega, by show _ ≤ 4480; omega⟩ rfl ?_
        refine lv_iconst (v := 4) hx hb dL_isBillet_343 (by decide) ?_
        refine lv_icmp_ne (tgt := 393) hx hb dL_isBillet_344 (by decide) (fun h => absurd h (by decide)) (fun _ => ?_)
        refine lv_iload hx hb dL_isBillet_347 (lv_at hl9 0 rfl) ?_
        refine lv_iconst (v := (-1)) hx hb dL_isBillet_349 (by decide) ?_
        refine lv_icmp_eq (tgt := 389) hx hb dL_isBillet_350 (by decide) (fun c_2 => ?_) (fun c_2 => ?_)
        ·
          refine lv_iconst (v := 1) hx hb dL_isBillet_389 (by decide) ?_
          refine lv_goto (tgt := 394) hx hb dL_isBillet_390 (by decide) ?_
          exact hret _ _ _ _ _ sl9 _ _ () Mz9 rfl (rfl) rfl (by show _ ≤ 320; omega) (by show _ ≤ 4480; omega) dL_isBillet_394
        ·
          refine lv_iload hx hb dL_isBillet_353 (lv_at hl9 11 rfl) ?_
          refine lv_if_lt (tgt := 393) hx hb dL_isBillet_355 (by decide) (fun h => absurd h (hpl c_2)) (fun _ => ?_)
          refine lv_aload_n hx hb dL_isBillet_358 rfl (lv_at hl9 5 rfl) ?_
          refine lv_iload hx hb dL_isBillet_359 (lv_at hl9 9 rfl) ?_
          refine lv_iconst (v := 5) hx hb dL_isBillet_361 (by decide) ?_
          refine z_callW (As := [.ref (ad 0), .int (nI (i)), .int 5]) (rest := []) (zX_k ea mi sa) hX Z Mz9 (hc_bIs5 hI hi _) (vx_cwSW 3 hts gL_isBillet_L_billetIs rfl rfl rfl (by decide +kernel) ⟨by decide, by decide⟩) rfl hl9.1 (Nat.le_of_ble_eq_true rfl) dL_isBillet_362 ⟨by show _ ≤ 320; omega, by show _ ≤ 4480; omega⟩ rfl (fun u9 Hp9 lc9 Mz9 => ?_)
          refine zn_top (y := nI (lp)) (p3) ?_
          refine zn_if_ne (a := lp) (tgt := 393) (by omega) hx hb dL_isBillet_365 (by decide) (fun h => absurd h (fun q => q (hlp c_2))) (fun _ => ?_)
          refine lv_iload hx hb dL_isBillet_368 (lv_at hl9 13 rfl) ?_
          refine lv_bipush (v := 70) hx hb dL_isBillet_370 (by decide) ?_
          refine zn_icmp_eq (a := lst hv 8) (b := 70) (tgt := 389) (by omega) (by decide) hx hb dL_isBillet_372 (by decide) (fun c_3 => ?_) (fun c_3 => ?_)
          ·
            refine lv_iconst (v := 1) hx hb dL_isBillet_389 (by decide) ?_
            refine lv_goto (tgt := 394) hx hb dL_isBillet_390 (by decide) ?_
            exact hret _ _ _ _ _ sl9 _ _ () Mz9 rfl (rfl) rfl (by show _ ≤ 320; omega) (by show _ ≤ 4480; omega) dL_isBillet_394
          ·
            refine lv_aload_n hx hb dL_isBillet_375 rfl (lv_at hl9 5 rfl) ?_
            refine lv_iload hx hb dL_isBillet_376 (lv_at hl9 9 rfl) ?_
            refine lv_iload hx hb dL_isBillet_378 (lv_at hl9 13 rfl) ?_
            refine lv_iconst (v := 1) hx hb dL_isBillet_380 (by decide) ?_
            refine zn_iadd (a := lst hv 8) (b := 1) hx hb dL_isBillet_381 ?_
            obtain ⟨pk2, hpk2, hpw2⟩ := hc_paper (l := l) (D := D) (T := T) (ea := ea) (mi := mi) (sa := sa) hCb hI hi (n := lst hv 8 + 1) (by omega)
            refine z_callW (As := [.ref (ad 0), .int (nI (i)), .int (nI ((lst hv 8) + 1))]) (rest := []) (zX_k ea mi sa) hX Z Mz9 (hpw2 _) (vx_cwSW 3 hts gL_isBillet_L_paper rfl rfl rfl (by decide +kernel) ⟨by decide, by decide⟩) rfl hl9.1 (Nat.le_of_ble_eq_true rfl) dL_isBillet_382 ⟨by show _ ≤ 320; omega, by show _ ≤ 4480; omega⟩ rfl (fun u9 Hp9 lc9 Mz9 => ?_)
            refine zn_top (y := (-1)) (hpk2.2.1 hv hv1 (by rw [← lst8]; exact Nat.lt_succ_self _)) ?_
            refine lv_iconst (v := (-1)) hx hb dL_isBillet_385 (by decide) ?_
            refine lv_icmp_ne (tgt := 393) hx hb dL_isBillet_386 (by decide) (fun h => absurd h (by decide)) (fun _ => ?_)
            refine lv_iconst (v := 1) hx hb dL_isBillet_389 (by decide) ?_
            refine lv_goto (tgt := 394) hx hb dL_isBillet_390 (by decide) ?_
            exact hret _ _ _ _ _ sl9 _ _ () Mz9 rfl (rfl) rfl (by show _ ≤ 320; omega) (by show _ ≤ 4480; omega) dL_isBillet_394
      ·
        refine lv_iload hx hb dL_isBillet_320 (lv_at hl9 1 rfl) ?_
        refine lv_iconst (v := 1) hx hb dL_isBillet_322 (by decide) ?_
        refine lv_icmp_ne (tgt := 393) hx hb dL_isBillet_323 (by decide) (fun h => absurd h (fun q => q (hcr1 c_1))) (fun _ => ?_)
        refine lv_iload hx hb dL_isBillet_326 (lv_at hl9 0 rfl) ?_
        refine lv_iconst (v := (-1)) hx hb dL_isBillet_328 (by decide) ?_
        refine lv_icmp_ne (tgt := 393) hx hb dL_isBillet_329 (by decide) (fun h => absurd h (fun q => q (hpc c_1))) (fun _ => ?_)
        refine lv_aload_n hx hb dL_isBillet_332 rfl (lv_at hl9 5 rfl) ?_
        refine lv_iload hx hb dL_isBillet_333 (lv_at hl9 9 rfl) ?_
        refine lv_bipush (v := 7) hx hb dL_isBillet_335 (by decide) ?_
        refine z_callW (As := [.ref (ad 0), .int (nI (i)), .int 7]) (rest := []) (zX_k ea mi sa) hX Z Mz9 (hc_bIs7 hI hi _) (vx_cwSW 3 hts gL_isBillet_L_billetIs rfl rfl rfl (by decide +kernel) ⟨by decide, by decide⟩) rfl hl9.1 (Nat.le_of_ble_eq_true rfl) dL_isBillet_337 ⟨by show _ ≤ 320; omega, by show _ ≤ 4480; omega⟩ rfl (fun u9 Hp9 lc9 Mz9 => ?_)
        refine zn_top (y := nI (pt)) (t3) ?_
        refine z_callSi (As := [.int (nI (pt))]) (rest := []) Z.1 (ln_ones4 l t1 t2) (va_cwS 1 hts gL_isBillet_L_ones rfl rfl rfl (by decide +kernel) ⟨by decide, by decide⟩) rfl hl9.1 (Nat.le_of_ble_eq_true rfl) dL_isBillet_340 ⟨by show _ ≤ 320; omega, by show _ ≤ 4480; omega⟩ rfl ?_
        refine lv_iconst (v := 4) hx hb dL_isBillet_343 (by decide) ?_
        refine lv_icmp_ne (tgt := 393) hx hb dL_isBillet_344 (by decide) (fun h => absurd h (by decide)) (fun _ => ?_)
        refine lv_iload hx hb dL_isBillet_347 (lv_at hl9 0 rfl) ?_
        refine lv_iconst (v := (-1)) hx hb dL_isBillet_349 (by decide) ?_
        refine lv_icmp_eq (tgt := 389) hx hb dL_isBillet_350 (by decide) (fun c_4 => ?_) (fun c_4 => ?_)
        ·
          refine lv_iconst (v := 1) hx hb dL_isBillet_389 (by decide) ?_
          refine lv_goto (tgt := 394) hx hb dL_isBillet_390 (by decide) ?_
          exact hret _ _ _ _ _ sl9 _ _ () Mz9 rfl (rfl) rfl (by show _ ≤ 320; omega) (by show _ ≤ 4480; omega) dL_isBillet_394
        ·
          refine lv_iload hx hb dL_isBillet_353 (lv_at hl9 11 rfl) ?_
          refine lv_if_lt (tgt := 393) hx hb dL_isBillet_355 (by decide) (fun h => absurd h (hpl c_4)) (fun _ => ?_)
          refine lv_aload_n hx hb dL_isBillet_358 rfl (lv_at hl9 5 rfl) ?_
          refine lv_iload hx hb dL_isBillet_359 (lv_at hl9 9 rfl) ?_
          refine lv_iconst (v := 5) hx hb dL_isBillet_361 (by decide) ?_
          refine z_callW (As := [.ref (ad 0), .int (nI (i)), .int 5]) (rest := []) (zX_k ea mi sa) hX Z Mz9 (hc_bIs5 hI hi _) (vx_cwSW 3 hts gL_isBillet_L_billetIs rfl rfl rfl (by decide +kernel) ⟨by decide, by decide⟩) rfl hl9.1 (Nat.le_of_ble_eq_true rfl) dL_isBillet_362 ⟨by show _ ≤ 320; omega, by show _ ≤ 4480; omega⟩ rfl (fun u9 Hp9 lc9 Mz9 => ?_)
          refine zn_top (y := nI (lp)) (p3) ?_
          refine zn_if_ne (a := lp) (tgt := 393) (by omega) hx hb dL_isBillet_365 (by decide) (fun h => absurd h (fun q => q (hlp c_4))) (fun _ => ?_)
          refine lv_iload hx hb dL_isBillet_368 (lv_at hl9 13 rfl) ?_
          refine lv_bipush (v := 70) hx hb dL_isBillet_370 (by decide) ?_
          refine zn_icmp_eq (a := lst hv 8) (b := 70) (tgt := 389) (by omega) (by decide) hx hb dL_isBillet_372 (by decide) (fun c_5 => ?_) (fun c_5 => ?_)
          ·
            refine lv_iconst (v := 1) hx hb dL_isBillet_389 (by decide) ?_
            refine lv_goto (tgt := 394) hx hb dL_isBillet_390 (by decide) ?_
            exact hret _ _ _ _ _ sl9 _ _ () Mz9 rfl (rfl) rfl (by show _ ≤ 320; omega) (by show _ ≤ 4480; omega) dL_isBillet_394
          ·
            refine lv_aload_n hx hb dL_isBillet_375 rfl (lv_at hl9 5 rfl) ?_
            refine lv_iload hx hb dL_isBillet_376 (lv_at hl9 9 rfl) ?_
            refine lv_iload hx hb dL_isBillet_378 (lv_at hl9 13 rfl) ?_
            refine lv_iconst (v := 1) hx hb dL_isBillet_380 (by decide) ?_
            refine zn_iadd (a := lst hv 8) (b := 1) hx hb dL_isBillet_381 ?_
            obtain ⟨pk2, hpk2, hpw2⟩ := hc_paper (l := l) (D := D) (T := T) (ea := ea) (mi := mi) (sa := sa) hCb hI hi (n := lst hv 8 + 1) (by omega)
            refine z_callW (As := [.ref (ad 0), .int (nI (i)), .int (nI ((lst hv 8) + 1))]) (rest := []) (zX_k ea mi sa) hX Z Mz9 (hpw2 _) (vx_cwSW 3 hts gL_isBillet_L_paper rfl rfl rfl (by decide +kernel) ⟨by decide, by decide⟩) rfl hl9.1 (Nat.le_of_ble_eq_true rfl) dL_isBillet_382 ⟨by show _ ≤ 320; omega, by show _ ≤ 4480; omega⟩ rfl (fun u9 Hp9 lc9 Mz9 => ?_)
            refine zn_top (y := (-1)) (hpk2.2.1 hv hv1 (by rw [← lst8]; exact Nat.lt_succ_self _)) ?_
            refine lv_iconst (v := (-1)) hx hb dL_isBillet_385 (by decide) ?_
            refine lv_icmp_ne (tgt := 393) hx hb dL_isBillet_386 (by decide) (fun h => absurd h (by decide)) (fun _ => ?_)
            refine lv_iconst (v := 1) hx hb dL_isBillet_389 (by decide) ?_
            refine lv_goto (tgt := 394) hx hb dL_isBillet_390 (by decide) ?_
            exact hret _ _ _ _ _ sl9 _ _ () Mz9 rfl (rfl) rfl (by show _ ≤ 320; omega) (by show _ ≤ 4480; omega) dL_isBillet_394
    | succ n77 ih77 =>
      intro k hk9 Hp9 lc9 sl9 Mz9 hl9
      have q1 := (hv1 k (by omega)).2
      have q2 := lst_le hv k
      have q3 := sm8_le (al := al) 8 k (by omega)
      have q4 := (al1 k (by omega)).2
      refine lv_iload hx hb dL_isBillet_77 (lv_at hl9 9 rfl) ?_
      refine lv_bipush (v := 8) hx hb dL_isBillet_79 (by decide) ?_
      refine zn_icmp_ge (a := k) (b := 8) (tgt := 171) (by omega) (by decide) hx hb dL_isBillet_81 (by decide) (fun h => absurd h (by omega)) (fun _ => ?_)
      refine lv_iload hx hb dL_isBillet_84 (lv_at hl9 7 rfl) ?_
      refine lv_if_eq (tgt := 171) hx hb dL_isBillet_86 (by decide) (fun h => absurd h (by decide)) (fun _ => ?_)
      refine lv_aload_n hx hb dL_isBillet_89 rfl (lv_at hl9 0 rfl) ?_
      refine lv_iload hx hb dL_isBillet_90 (lv_at hl9 4 rfl) ?_
      refine lv_iload hx hb dL_isBillet_92 (lv_at hl9 9 rfl) ?_
      refine z_callW (As := [.ref (ad 0), .int (nI (i)), .int (nI (k))]) (rest := []) (zX_k ea mi sa) hX Z Mz9 (hc_area hI hi (by omega) _) (vx_cwSW 3 hts gL_isBillet_L_area rfl rfl rfl (by decide +kernel) ⟨by decide, by decide⟩) rfl hl9.1 (Nat.le_of_ble_eq_true rfl) dL_isBillet_94 ⟨by show _ ≤ 320; omega, by show _ ≤ 4480; omega⟩ rfl (fun u9 Hp9 lc9 Mz9 => ?_)
      refine zn_top (y := nI (al k)) ((al1 k (by omega)).1) ?_
      refine lv_istore (lv' := [(10, .int (nI (al k))), (0, .ref (ad 0)), (1, .ref (av 0)), (2, .ref (av 2)), (3, .ref (av 3)), (4, .int (nI (i))), (5, .int (nI (sm8 al k))), (6, .int (ρ (100 + 3 * i) 14)), (7, .int 1), (8, .int (nI (lst hv k))), (9, .int (nI (k)))]) hx hb dL_isBillet_97 hl9 (by decide) rfl (fun sl9 hl9 => ?_)
      refine lv_aload_n hx hb dL_isBillet_99 rfl (lv_at hl9 1 rfl) ?_
      refine lv_iload hx hb dL_isBillet_100 (lv_at hl9 5 rfl) ?_
      refine lv_iload hx hb dL_isBillet_102 (lv_at hl9 10 rfl) ?_
      refine z_callW (As := [.ref (ad 0), .int (nI (i)), .int (nI (k))]) (rest := []) (zX_k ea mi sa) hX Z Mz9 (hc_hard hI hi (by omega) _) (vx_cwSW 3 hts gL_isBillet_L_hardness rfl rfl rfl (by decide +kernel) ⟨by decide, by decide⟩) rfl hl9.1 (Nat.le_of_ble_eq_true rfl) dL_isBillet_104 ⟨by show _ ≤ 320; omega, by show _ ≤ 4480; omega⟩ rfl (fun u9 Hp9 lc9 Mz9 => ?_)
      refine zn_top (y := nI (hv k)) ((hv1 k (by omega)).1) ?_
      refine lv_istore (lv' := [(11, .int (nI (hv k))), (10, .int (nI (al k))), (0, .ref (ad 0)), (1, .ref (av 0)), (2, .ref (av 2)), (3, .ref (av 3)), (4, .int (nI (i))), (5, .int (nI (sm8 al k))), (6, .int (ρ (100 + 3 * i) 14)), (7, .int 1), (8, .int (nI (lst hv k))), (9, .int (nI (k)))]) hx hb dL_isBillet_107 hl9 (by decide) rfl (fun sl9 hl9 => ?_)
      refine lv_iload hx hb dL_isBillet_109 (lv_at hl9 7 rfl) ?_
      refine lv_iload hx hb dL_isBillet_111 (lv_at hl9 1 rfl) ?_
      refine zn_iadd (a := sm8 al k) (b := al k) hx hb dL_isBillet_113 ?_
      refine lv_istore (lv' := [(5, .int (nI ((sm8 al k) + (al k)))), (11, .int (nI (hv k))), (10, .int (nI (al k))), (0, .ref (ad 0)), (1, .ref (av 0)), (2, .ref (av 2)), (3, .ref (av 3)), (4, .int (nI (i))), (6, .int (ρ (100 + 3 * i) 14)), (7, .int 1), (8, .int (nI (lst hv k))), (9, .int (nI (k)))]) hx hb dL_isBillet_114 hl9 (by decide) rfl (fun sl9 hl9 => ?_)
      refine lv_iload hx hb dL_isBillet_116 (lv_at hl9 1 rfl) ?_
      refine lv_iload hx hb dL_isBillet_118 (lv_at hl9 10 rfl) ?_
      refine zn_icmp_ge (a := hv k) (b := lst hv k) (tgt := 128) (by omega) (by omega) hx hb dL_isBillet_120 (by decide) (fun c_6 => ?_) (fun c_6 => ?_)
      ·
        refine lv_iload hx hb dL_isBillet_128 (lv_at hl9 10 rfl) ?_
        refine zn_top (y := nI (lst hv (k + 1))) (congrArg nI (show lst hv k = lst hv (k + 1) by rw [lst, if_neg (by omega)])) ?_
        refine lv_istore (lv' := [(8, .int (nI (lst hv (k + 1)))), (5, .int (nI ((sm8 al k) + (al k)))), (11, .int (nI (hv k))), (10, .int (nI (al k))), (0, .ref (ad 0)), (1, .ref (av 0)), (2, .ref (av 2)), (3, .ref (av 3)), (4, .int (nI (i))), (6, .int (ρ (100 + 3 * i) 14)), (7, .int 1), (9, .int (nI (k)))]) hx hb dL_isBillet_130 hl9 (by decide) rfl (fun sl9 hl9 => ?_)
        refine lv_iload hx hb dL_isBillet_132 (lv_at hl9 3 rfl) ?_
        refine zn_if_le (a := al k) (tgt := 162) (by omega) hx hb dL_isBillet_134 (by decide) (fun h => absurd h (by omega)) (fun _ => ?_)
        refine lv_iload hx hb dL_isBillet_137 (lv_at hl9 2 rfl) ?_
        refine zn_if_lt (a := hv k) (tgt := 162) (by omega) hx hb dL_isBillet_139 (by decide) (fun h => absurd h (fun q => q)) (fun _ => ?_)
        refine lv_iload hx hb dL_isBillet_142 (lv_at hl9 2 rfl) ?_
        refine lv_iload hx hb dL_isBillet_144 (lv_at hl9 9 rfl) ?_
        refine lv_if_ge (tgt := 153) hx hb dL_isBillet_146 (by decide) (fun c_7 => ?_) (fun c_7 => ?_)
        ·
          refine lv_bipush (v := 70) hx hb dL_isBillet_153 (by decide) ?_
          refine zn_icmp_gt (a := hv k) (b := 70) (tgt := 162) (by omega) (by decide) hx hb dL_isBillet_155 (by decide) (fun h => absurd h (by omega)) (fun _ => ?_)
          refine lv_iconst (v := 1) hx hb dL_isBillet_158 (by decide) ?_
          refine lv_goto (tgt := 163) hx hb dL_isBillet_159 (by decide) ?_
          refine lv_istore (lv' := [(7, .int 1), (8, .int (nI (lst hv (k + 1)))), (5, .int (nI ((sm8 al k) + (al k)))), (11, .int (nI (hv k))), (10, .int (nI (al k))), (0, .ref (ad 0)), (1, .ref (av 0)), (2, .ref (av 2)), (3, .ref (av 3)), (4, .int (nI (i))), (6, .int (ρ (100 + 3 * i) 14)), (9, .int (nI (k)))]) hx hb dL_isBillet_163 hl9 (by decide) rfl (fun sl9 hl9 => ?_)
          refine lv_iinc (v := nI (k + 1)) (lv' := [(9, .int (nI (k + 1))), (7, .int 1), (8, .int (nI (lst hv (k + 1)))), (5, .int (nI ((sm8 al k) + (al k)))), (11, .int (nI (hv k))), (10, .int (nI (al k))), (0, .ref (ad 0)), (1, .ref (av 0)), (2, .ref (av 2)), (3, .ref (av 3)), (4, .int (nI (i))), (6, .int (ρ (100 + 3 * i) 14))]) hx hb dL_isBillet_165 hl9 (k := 11) rfl (nI_add (k) 1) (by decide) rfl (fun sl9 hl9 => ?_)
          refine lv_goto (tgt := 77) hx hb dL_isBillet_168 (by decide) ?_
          refine W.widen (show _ ≤ 20 + 10 * (k + 1) by omega) (show _ ≤ 280 + 140 * (k + 1) by omega) ?_
          exact ih77 (k + 1) (by omega)  _ _ _ Mz9 (lv_sub hl9 [6, 7, 8, 9, 10, 3, 11, 1, 2, 0] rfl)
        ·
          refine lv_iconst (v := 0) hx hb dL_isBillet_149 (by decide) ?_
          refine lv_goto (tgt := 155) hx hb dL_isBillet_150 (by decide) ?_
          refine zn_icmp_gt (a := hv k) (b := 0) (tgt := 162) (by omega) (by decide) hx hb dL_isBillet_155 (by decide) (fun h => absurd h (by have q9 := hv0 (ldneg hL c_7 hN3) k; omega)) (fun _ => ?_)
          refine lv_iconst (v := 1) hx hb dL_isBillet_158 (by decide) ?_
          refine lv_goto (tgt := 163) hx hb dL_isBillet_159 (by decide) ?_
          refine lv_istore (lv' := [(7, .int 1), (8, .int (nI (lst hv (k + 1)))), (5, .int (nI ((sm8 al k) + (al k)))), (11, .int (nI (hv k))), (10, .int (nI (al k))), (0, .ref (ad 0)), (1, .ref (av 0)), (2, .ref (av 2)), (3, .ref (av 3)), (4, .int (nI (i))), (6, .int (ρ (100 + 3 * i) 14)), (9, .int (nI (k)))]) hx hb dL_isBillet_163 hl9 (by decide) rfl (fun sl9 hl9 => ?_)
          refine lv_iinc (v := nI (k + 1)) (lv' := [(9, .int (nI (k + 1))), (7, .int 1), (8, .int (nI (lst hv (k + 1)))), (5, .int (nI ((sm8 al k) + (al k)))), (11, .int (nI (hv k))), (10, .int (nI (al k))), (0, .ref (ad 0)), (1, .ref (av 0)), (2, .ref (av 2)), (3, .ref (av 3)), (4, .int (nI (i))), (6, .int (ρ (100 + 3 * i) 14))]) hx hb dL_isBillet_165 hl9 (k := 11) rfl (nI_add (k) 1) (by decide) rfl (fun sl9 hl9 => ?_)
          refine lv_goto (tgt := 77) hx hb dL_isBillet_168 (by decide) ?_
          refine W.widen (show _ ≤ 20 + 10 * (k + 1) by omega) (show _ ≤ 280 + 140 * (k + 1) by omega) ?_
          exact ih77 (k + 1) (by omega)  _ _ _ Mz9 (lv_sub hl9 [6, 7, 8, 9, 10, 3, 11, 1, 2, 0] rfl)
      ·
        refine lv_iload hx hb dL_isBillet_123 (lv_at hl9 1 rfl) ?_
        refine lv_goto (tgt := 130) hx hb dL_isBillet_125 (by decide) ?_
        refine zn_top (y := nI (lst hv (k + 1))) (congrArg nI (show hv k = lst hv (k + 1) by rw [lst, if_pos (by omega)])) ?_
        refine lv_istore (lv' := [(8, .int (nI (lst hv (k + 1)))), (5, .int (nI ((sm8 al k) + (al k)))), (11, .int (nI (hv k))), (10, .int (nI (al k))), (0, .ref (ad 0)), (1, .ref (av 0)), (2, .ref (av 2)), (3, .ref (av 3)), (4, .int (nI (i))), (6, .int (ρ (100 + 3 * i) 14)), (7, .int 1), (9, .int (nI (k)))]) hx hb dL_isBillet_130 hl9 (by decide) rfl (fun sl9 hl9 => ?_)
        refine lv_iload hx hb dL_isBillet_132 (lv_at hl9 3 rfl) ?_
        refine zn_if_le (a := al k) (tgt := 162) (by omega) hx hb dL_isBillet_134 (by decide) (fun h => absurd h (by omega)) (fun _ => ?_)
        refine lv_iload hx hb dL_isBillet_137 (lv_at hl9 2 rfl) ?_
        refine zn_if_lt (a := hv k) (tgt := 162) (by omega) hx hb dL_isBillet_139 (by decide) (fun h => absurd h (fun q => q)) (fun _ => ?_)
        refine lv_iload hx hb dL_isBillet_142 (lv_at hl9 2 rfl) ?_
        refine lv_iload hx hb dL_isBillet_144 (lv_at hl9 9 rfl) ?_
        refine lv_if_ge (tgt := 153) hx hb dL_isBillet_146 (by decide) (fun c_8 => ?_) (fun c_8 => ?_)
        ·
          refine lv_bipush (v := 70) hx hb dL_isBillet_153 (by decide) ?_
          refine zn_icmp_gt (a := hv k) (b := 70) (tgt := 162) (by omega) (by decide) hx hb dL_isBillet_155 (by decide) (fun h => absurd h (by omega)) (fun _ => ?_)
          refine lv_iconst (v := 1) hx hb dL_isBillet_158 (by decide) ?_
          refine lv_goto (tgt := 163) hx hb dL_isBillet_159 (by decide) ?_
          refine lv_istore (lv' := [(7, .int 1), (8, .int (nI (lst hv (k + 1)))), (5, .int (nI ((sm8 al k) + (al k)))), (11, .int (nI (hv k))), (10, .int (nI (al k))), (0, .ref (ad 0)), (1, .ref (av 0)), (2, .ref (av 2)), (3, .ref (av 3)), (4, .int (nI (i))), (6, .int (ρ (100 + 3 * i) 14)), (9, .int (nI (k)))]) hx hb dL_isBillet_163 hl9 (by decide) rfl (fun sl9 hl9 => ?_)
          refine lv_iinc (v := nI (k + 1)) (lv' := [(9, .int (nI (k + 1))), (7, .int 1), (8, .int (nI (lst hv (k + 1)))), (5, .int (nI ((sm8 al k) + (al k)))), (11, .int (nI (hv k))), (10, .int (nI (al k))), (0, .ref (ad 0)), (1, .ref (av 0)), (2, .ref (av 2)), (3, .ref (av 3)), (4, .int (nI (i))), (6, .int (ρ (100 + 3 * i) 14))]) hx hb dL_isBillet_165 hl9 (k := 11) rfl (nI_add (k) 1) (by decide) rfl (fun sl9 hl9 => ?_)
          refine lv_goto (tgt := 77) hx hb dL_isBillet_168 (by decide) ?_
          refine W.widen (show _ ≤ 20 + 10 * (k + 1) by omega) (show _ ≤ 280 + 140 * (k + 1) by omega) ?_
          exact ih77 (k + 1) (by omega)  _ _ _ Mz9 (lv_sub hl9 [6, 7, 8, 9, 10, 3, 11, 1, 2, 0] rfl)
        ·
          refine lv_iconst (v := 0) hx hb dL_isBillet_149 (by decide) ?_
          refine lv_goto (tgt := 155) hx hb dL_isBillet_150 (by decide) ?_
          refine zn_icmp_gt (a := hv k) (b := 0) (tgt := 162) (by omega) (by decide) hx hb dL_isBillet_155 (by decide) (fun h => absurd h (by have q9 := hv0 (ldneg hL c_8 hN3) k; omega)) (fun _ => ?_)
          refine lv_iconst (v := 1) hx hb dL_isBillet_158 (by decide) ?_
          refine lv_goto (tgt := 163) hx hb dL_isBillet_159 (by decide) ?_
          refine lv_istore (lv' := [(7, .int 1), (8, .int (nI (lst hv (k + 1)))), (5, .int (nI ((sm8 al k) + (al k)))), (11, .int (nI (hv k))), (10, .int (nI (al k))), (0, .ref (ad 0)), (1, .ref (av 0)), (2, .ref (av 2)), (3, .ref (av 3)), (4, .int (nI (i))), (6, .int (ρ (100 + 3 * i) 14)), (9, .int (nI (k)))]) hx hb dL_isBillet_163 hl9 (by decide) rfl (fun sl9 hl9 => ?_)
          refine lv_iinc (v := nI (k + 1)) (lv' := [(9, .int (nI (k + 1))), (7, .int 1), (8, .int (nI (lst hv (k + 1)))), (5, .int (nI ((sm8 al k) + (al k)))), (11, .int (nI (hv k))), (10, .int (nI (al k))), (0, .ref (ad 0)), (1, .ref (av 0)), (2, .ref (av 2)), (3, .ref (av 3)), (4, .int (nI (i))), (6, .int (ρ (100 + 3 * i) 14))]) hx hb dL_isBillet_165 hl9 (k := 11) rfl (nI_add (k) 1) (by decide) rfl (fun sl9 hl9 => ?_)
          refine lv_goto (tgt := 77) hx hb dL_isBillet_168 (by decide) ?_
          refine W.widen (show _ ≤ 20 + 10 * (k + 1) by omega) (show _ ≤ 280 + 140 * (k + 1) by omega) ?_
          exact ih77 (k + 1) (by omega)  _ _ _ Mz9 (lv_sub hl9 [6, 7, 8, 9, 10, 3, 11, 1, 2, 0] rfl)
  refine W.widen (show _ ≤ 20 + 10 * 0 by omega) (show _ ≤ 280 + 140 * 0 by omega) ?_
  exact LP77_1 (8 - 0) (0) (by omega)  _ _ _ Mz9 (lv_sub hl9 [5, 6, 7, 8, 9, 4, 3, 2, 1, 0] rfl)
end LAW1
