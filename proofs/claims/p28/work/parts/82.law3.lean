/-! ===== the law's own methods: quenches, plans ===== -/
def stK (x : Int32) (g i : Nat) : Bool := !decide (x < 0) && (!decide (x = 0) && (decide (ush x (nI g) = 0) && !decide (ush x (nI i) &&& 1 = 0)))
theorem stK_of {x : Int32} {g i : Nat} (h : stK x g i = true) : ¬ x < 0 ∧ ¬ x = 0 ∧ ush x (nI g) = 0 ∧ ¬ ush x (nI i) &&& 1 = 0 := by
  unfold stK at h
  simp only [Bool.and_eq_true, Bool.not_eq_true', decide_eq_true_eq, decide_eq_false_iff_not] at h
  exact ⟨h.1, h.2.1, h.2.2.1, h.2.2.2⟩
theorem set_tab1 : ∀ g, g < 13 → ∀ i, i < g → stK (nI (2 ^ i) ||| (0 : Int32)) g i = true := by decide +kernel
theorem set_tab2 : ∀ g, g < 13 → ∀ i, i < g → ∀ j, j < g → stK (nI (2 ^ i) ||| nI (2 ^ j)) g i = true := by decide +kernel
theorem cnQ_s {N : Nat → Nat} {ρ : Nat → Nat → Int32} {x : Int32} {k : Nat} : cnQ N ρ x (k + 1) = if cnQ N ρ x k = 0 then 0 else if (x >>> (nI k &&& 31)) &&& 1 = 0 then 1 else if ρ (100 + 3 * k) 8 < 800 then 0 else if ρ (100 + 3 * k) 12 = 0 then 1 else 0 := by
  unfold cnQ
  rw [cqB]
theorem cnQ_0 {N : Nat → Nat} {ρ : Nat → Nat → Int32} {x : Int32} : cnQ N ρ x 0 = if nI (N 3) < 20 then 1 else 0 := rfl
theorem cr01 {x : Int32} (h : x = 0 ∨ x = 1) : (if x = 0 then (0 : Int32) else 1) = x := by
  rcases h with rfl | rfl <;> rfl
theorem GR_q {N : Nat → Nat} {ga : Nat → Int32} (h : GRc N ga) : GRc (Nq N) (upd ga 3 (nI (N 3 + 1))) := by
  obtain ⟨h0, h1, h2, h3, h4⟩ := h
  exact ⟨(upd_ne _ _ (by decide)).trans h0, (upd_ne _ _ (by decide)).trans h1, (upd_ne _ _ (by decide)).trans h2, upd_same _ _ _, (upd_ne _ _ (by decide)).trans h4⟩
theorem GR_j {N : Nat → Nat} {ga : Nat → Int32} (h : GRc N ga) (x : Nat) : GRc (N4 N x) (upd ga 4 (nI x)) := by
  obtain ⟨h0, h1, h2, h3, h4⟩ := h
  exact ⟨(upd_ne _ _ (by decide)).trans h0, (upd_ne _ _ (by decide)).trans h1, (upd_ne _ _ (by decide)).trans h2, (upd_ne _ _ (by decide)).trans h3, upd_same _ _ _⟩
theorem GR_4 {N : Nat → Nat} {ga : Nat → Int32} (h : GRc N ga) {x : Nat} (hx : N 4 = x) : GRc N (upd ga 4 (nI x)) := by
  obtain ⟨h0, h1, h2, h3, h4⟩ := h
  exact ⟨(upd_ne _ _ (by decide)).trans h0, (upd_ne _ _ (by decide)).trans h1, (upd_ne _ _ (by decide)).trans h2, (upd_ne _ _ (by decide)).trans h3, (upd_same _ _ _).trans (congrArg nI hx.symm)⟩
def pS (P : Nat → Nat) (k : Nat) : Nat := (P (k - 1) - P 0) + (P 0 - P (k - 1))
theorem pS1 (P : Nat → Nat) : pS P 1 = 0 := by
  show (P 0 - P 0) + (P 0 - P 0) = 0
  omega
theorem neg_tab2 : ∀ n, n < 1301 → ¬ (0 : Int32) < 0 - nI n := by decide +kernel
theorem rcv {T : Nat → ClassId} {av ad : Nat → Nat} {ga ma aa ca ta : Nat → Int32} {J : List Nat} {G : Nat → va_E} (h : 0 ∈ J) : (lwR T av ga ma aa ca ta ++ iw J ad G)[5 + J.idxOf 0]? = some (ad 0, G 0) := by
  rw [List.getElem?_append_right (Nat.le_add_right 5 _)]
  show (iw J ad G)[5 + J.idxOf 0 - 5]? = _
  rw [Nat.add_sub_cancel_left]
  exact iw_get (idx_at h)
section LAW3
variable {l : Launch} {D : va_G} {T : Nat → ClassId} {ea mi : Nat} {sa : Nat → Nat}
variable {C : Nat} {ad : Nat → Nat} {J : List Nat} {N mst bst : Nat → Nat} {ρ : Nat → Nat → Int32} {ga ma aa ca ta : Nat → Int32} {av : Nat → Nat} {i : Nat}
set_option maxHeartbeats 4000000 in
set_option maxRecDepth 100000 in
theorem lm_quenches (hfl : l.stackTraces = false) (hCb : C < 2 ^ 30) (hI : Inv C J N mst bst ρ aa ca) (hGr : GRc N ga) (hi : i < N 1) (y9 : Int32) : ZIH l yL_quenches wsL_quenches mR9 (zX ea mi sa) D T (S := {Y : YS // PIc (C + 1) (ad 0) Y}) (lwR T av ga ma aa ca ta ++ iw J ad (hG ad T ea nof N mst bst ρ)) (fun Y => yW T ea av Y.1) [.ref (ad 0), .ref (av 0), .ref (av 1), .int (nI (i)), .int (y9)] 1 320 4480 := by
  have hi12 : i < 12 := (I_liB hI hi).1
  have hN1 := I_N1 hI
  have hN3 := hI.2.2.2.1.1
  obtain ⟨hg0, hg1, hg2, hg3, hg4⟩ := id hGr
  refine z_inIHC (cc := cL_quenches) (maxL := 10) (rt := .boolean) (by decide +kernel) rfl (Nat.le_of_ble_eq_true rfl) ?_
  intro p e s m args below meth c sl9 A Q Z hX Mz9 hl9 hret
  have Z : zC p s m args c cL_quenches 10 RL wsL_quenches D T A := Z
  have hx := Z.1.1
  have hb := Z.1.2.1
  have hts := Z.1.2.2.2.2
  have hl9 : lv_has sl9 10 [(0, .ref (ad 0)), (1, .ref (av 0)), (2, .ref (av 1)), (3, .int (nI (i))), (4, .int (y9))] := hl9
  refine lv_iconst (v := 1) hx hb dL_quenches_0 (by decide) ?_
  refine lv_iload_n hx hb dL_quenches_1 rfl (lv_at hl9 3 rfl) ?_
  refine lv_ishl hx hb dL_quenches_2 ?_
  refine zn_top (y := nI (2 ^ i)) (one_sh i (by omega)) ?_
  refine lv_iload hx hb dL_quenches_3 (lv_at hl9 4 rfl) ?_
  refine lv_iconst (v := 3) hx hb dL_quenches_5 (by decide) ?_
  obtain ⟨q1, b1, z1⟩ := ln_low2 l y9 3 (by decide)
  refine z_callSi (As := [.int (y9), .int 3]) (rest := [.int (nI (2 ^ i))]) Z.1 z1 (va_cwS 2 hts gL_quenches_L_low rfl rfl rfl (by decide +kernel) ⟨by decide, by decide⟩) rfl hl9.1 (Nat.le_of_ble_eq_true rfl) dL_quenches_6 ⟨by show _ ≤ 320; omega, by show _ ≤ 4480; omega⟩ rfl ?_
  refine zn_if_ne (a := q1) (tgt := 27) (by omega) hx hb dL_quenches_9 (by decide) (fun c_1 => ?_) (fun c_1 => ?_)
  ·
    refine lv_iconst (v := 0) hx hb dL_quenches_27 (by decide) ?_
    refine lv_ior hx hb dL_quenches_28 ?_
    obtain ⟨x9, hxe⟩ : ∃ x9 : Int32, x9 = (nI (2 ^ i)) ||| 0 := ⟨_, rfl⟩
    have hxt := stK_of (set_tab1 (N 1) (by omega) i hi)
    rw [← hxe] at hxt
    obtain ⟨hx8, hx0, hx1, hxi⟩ := hxt
    obtain ⟨nx, hnx, hx9⟩ := zI_of hx8
    refine zn_top (y := x9) hxe.symm ?_
    refine lv_istore (lv' := [(5, .int (x9)), (0, .ref (ad 0)), (1, .ref (av 0)), (2, .ref (av 1)), (3, .int (nI (i))), (4, .int (y9))]) hx hb dL_quenches_29 hl9 (by decide) rfl (fun sl9 hl9 => ?_)
    refine lv_aload_n hx hb dL_quenches_31 rfl (lv_at hl9 2 rfl) ?_
    refine lv_iconst (v := 3) hx hb dL_quenches_32 (by decide) ?_
    refine z_iald Z Mz9 0 (h0 := av 0) (n := 6) (f := ga) rfl (j := 3) (by decide) (by decide) dL_quenches_33 ?_
    refine zn_top (y := nI (N 3)) (hg3) ?_
    refine lv_bipush (v := 20) hx hb dL_quenches_34 (by decide) ?_
    refine zn_icmp_ge (a := N 3) (b := 20) (tgt := 43) (by omega) (by decide) hx hb dL_quenches_36 (by decide) (fun c_2 => ?_) (fun c_2 => ?_)
    ·
      refine lv_iconst (v := 0) hx hb dL_quenches_43 (by decide) ?_
      refine zn_top (y := cnQ N ρ x9 0) (show (0 : Int32) = cnQ N ρ x9 0 by rw [cnQ_0]; exact (if_neg (fun q => absurd ((nI_ltI (b := 20) (by omega) (by decide)).mp q) (by omega))).symm) ?_
      refine lv_istore (lv' := [(6, .int (cnQ N ρ x9 0)), (5, .int (x9)), (0, .ref (ad 0)), (1, .ref (av 0)), (2, .ref (av 1)), (3, .int (nI (i))), (4, .int (y9))]) hx hb dL_quenches_44 hl9 (by decide) rfl (fun sl9 hl9 => ?_)
      refine lv_iconst (v := 0) hx hb dL_quenches_46 (by decide) ?_
      refine lv_istore (lv' := [(7, .int 0), (6, .int (cnQ N ρ x9 0)), (5, .int (x9)), (0, .ref (ad 0)), (1, .ref (av 0)), (2, .ref (av 1)), (3, .int (nI (i))), (4, .int (y9))]) hx hb dL_quenches_47 hl9 (by decide) rfl (fun sl9 hl9 => ?_)
      have LP49_1 : ∀ (n49 k : Nat), k + n49 = N 1 → ∀ (Hp9 : Heap) (lc9 : List Loc) (sl9 : Array Slot), zM D A s.heap (lwR T av ga ma aa ca ta ++ iw J ad (hG ad T ea nof N mst bst ρ)) Hp9 lc9 → lv_has sl9 10 [(0, .ref (ad 0)), (1, .ref (av 0)), (2, .ref (av 1)), (3, .int (nI (i))), (4, .int (y9)), (5, .int (x9)), (6, .int (cnQ N ρ x9 k)), (7, .int (nI (k)))] → W p l e mR9 s m args below meth c Hp9 lc9 (0 + 10 * k) (0 + 140 * k) Q (F0 m 49 sl9 []) := by
        intro n49
        induction n49 with
        | zero =>
          intro k hk9 Hp9 lc9 sl9 Mz9 hl9
          obtain rfl : k = N 1 := by omega
          refine lv_iload hx hb dL_quenches_49 (lv_at hl9 7 rfl) ?_
          refine lv_aload_n hx hb dL_quenches_51 rfl (lv_at hl9 1 rfl) ?_
          refine lv_iconst (v := 1) hx hb dL_quenches_52 (by decide) ?_
          refine z_iald Z Mz9 0 (h0 := av 0) (n := 6) (f := ga) rfl (j := 1) (by decide) (by decide) dL_quenches_53 ?_
          refine zn_top (y := nI (N 1)) (hg1) ?_
          refine zn_icmp_ge (a := N 1) (b := N 1) (tgt := 109) (by omega) (by omega) hx hb dL_quenches_54 (by decide) (fun _ => ?_) (fun h => absurd h (by omega))
          refine lv_aload_n hx hb dL_quenches_109 rfl (lv_at hl9 0 rfl) ?_
          refine lv_iload hx hb dL_quenches_110 (lv_at hl9 5 rfl) ?_
          refine lv_iload hx hb dL_quenches_112 (lv_at hl9 4 rfl) ?_
          refine lv_bipush (v := 6) hx hb dL_quenches_114 (by decide) ?_
          refine lv_ishr hx hb dL_quenches_116 ?_
          refine lv_iconst (v := 2) hx hb dL_quenches_117 (by decide) ?_
          obtain ⟨q2, b2, z2⟩ := ln_low2 l (y9 >>> (6 &&& 31)) 2 (by decide)
          refine z_callSi (As := [.int (y9 >>> (6 &&& 31)), .int 2]) (rest := [.int (x9), .ref (ad 0)]) Z.1 z2 (va_cwS 2 hts gL_quenches_L_low rfl rfl rfl (by decide +kernel) ⟨by decide, by decide⟩) rfl hl9.1 (Nat.le_of_ble_eq_true rfl) dL_quenches_118 ⟨by show _ ≤ 320; omega, by show _ ≤ 4480; omega⟩ rfl ?_
          have hyo : nI q2 = 0 ∨ nI q2 = 1 := by rcases (show q2 = 0 ∨ q2 = 1 by omega) with h | h <;> rw [h] <;> first | exact Or.inl rfl | exact Or.inr rfl
          obtain ⟨hqa, hqb⟩ := hc_quench (l := l) (D := D) (T := T) (ea := ea) (mi := mi) (sa := sa) hfl hI hnx hx9 hx0 hx1 hyo
          by_cases qz : cnQ N ρ x9 (N 1) = 0
          ·
            refine z_callW (As := [.ref (ad 0), .int (x9), .int (nI (q2))]) (rest := []) (zX_k ea mi sa) hX Z Mz9 (hqa qz _) (vx_cwSW 3 hts gL_quenches_L_quench rfl rfl rfl (by decide +kernel) ⟨by decide, by decide⟩) rfl hl9.1 (Nat.le_of_ble_eq_true rfl) dL_quenches_121 ⟨by show _ ≤ 320; omega, by show _ ≤ 4480; omega⟩ rfl (fun u9 Hp9 lc9 Mz9 => ?_)
            refine lv_istore (lv' := [(7, .int (-1000003)), (0, .ref (ad 0)), (1, .ref (av 0)), (2, .ref (av 1)), (3, .int (nI (i))), (4, .int (y9)), (5, .int (x9)), (6, .int (cnQ N ρ x9 (N 1)))]) hx hb dL_quenches_124 hl9 (by decide) rfl (fun sl9 hl9 => ?_)
            refine lv_iload hx hb dL_quenches_126 (lv_at hl9 7 rfl) ?_
            refine lv_if_ne (tgt := 144) hx hb dL_quenches_128 (by decide) (fun h => absurd h (fun q => q qz)) (fun _ => ?_)
            refine lv_iload hx hb dL_quenches_131 (lv_at hl9 0 rfl) ?_
            refine lv_ldc (v := (-1000003)) hx hb Z.1.2.2.2.1 (hts (.constant RL 28 (-1000003)) (by decide +kernel)) dL_quenches_133 ?_
            refine lv_icmp_ne (tgt := 142) hx hb dL_quenches_135 (by decide) (fun h => absurd h (by decide)) (fun _ => ?_)
            refine lv_iconst (v := 1) hx hb dL_quenches_138 (by decide) ?_
            refine lv_goto (tgt := 143) hx hb dL_quenches_139 (by decide) ?_
            exact hret _ _ _ _ _ sl9 _ _ (⟨((J, ad, N, mst, bst, ρ), ga, ma, aa, ca, ta), ⟨(I_le (Nat.le_succ C) hI), hGr, rfl⟩⟩) Mz9 rfl (rfl) rfl (by show _ ≤ 320; omega) (by show _ ≤ 4480; omega) dL_quenches_143
          ·
            obtain ⟨h20, hw1, hI1⟩ := hqb qz
            obtain ⟨kk, hq1, e7, e8, e14⟩ := q_QN (y := nI q2) hI hi hxi
            obtain ⟨ρ1, hρ1⟩ : ∃ q, q = upR (qR x9 (nI q2) (nI (N 3)) bst ρ (N 1)) 0 (fun _ => nI (N 3 + 1)) := ⟨_, rfl⟩
            rw [← hρ1] at hw1 hI1 hq1 e7 e8 e14
            have hi9 : i < Nq N 1 := hi
            have hld9 : N 3 < Nq N 3 := Nat.lt_succ_self (N 3)
            refine z_callW (As := [.ref (ad 0), .int (x9), .int (nI (q2))]) (rest := []) (zX_k ea mi sa) hX Z Mz9 (hw1 _) (vx_cwSW 3 hts gL_quenches_L_quench rfl rfl rfl (by decide +kernel) ⟨by decide, by decide⟩) rfl hl9.1 (Nat.le_of_ble_eq_true rfl) dL_quenches_121 ⟨by show _ ≤ 320; omega, by show _ ≤ 4480; omega⟩ rfl (fun u9 Hp9 lc9 Mz9 => ?_)
            refine lv_istore (lv' := [(7, .int (nI (N 3))), (0, .ref (ad 0)), (1, .ref (av 0)), (2, .ref (av 1)), (3, .int (nI (i))), (4, .int (y9)), (5, .int (x9)), (6, .int (cnQ N ρ x9 (N 1)))]) hx hb dL_quenches_124 hl9 (by decide) rfl (fun sl9 hl9 => ?_)
            refine lv_iload hx hb dL_quenches_126 (lv_at hl9 7 rfl) ?_
            refine lv_if_ne (tgt := 144) hx hb dL_quenches_128 (by decide) (fun _ => ?_) (fun h => absurd h (qz))
            refine lv_aload_n hx hb dL_quenches_144 rfl (lv_at hl9 2 rfl) ?_
            refine lv_iconst (v := 3) hx hb dL_quenches_145 (by decide) ?_
            refine lv_dup2_11 hx hb dL_quenches_146 rfl rfl ?_
            refine z_iald Z Mz9 0 (h0 := av 0) (n := 6) (f := ga) rfl (j := 3) (by decide) (by decide) dL_quenches_147 ?_
            refine zn_top (y := nI (N 3)) (hg3) ?_
            refine lv_iconst (v := 1) hx hb dL_quenches_148 (by decide) ?_
            refine zn_iadd (a := N 3) (b := 1) hx hb dL_quenches_149 ?_
            refine z_iast Z Mz9 0 (h0 := av 0) (n := 6) (f := ga) rfl (j := 3) (x := nI ((N 3) + 1)) (by decide) (by decide) (ws' := lwR T av (upd ga 3 (nI ((N 3) + 1))) ma aa ca ta ++ iw J ad (hG ad T ea nof (Nq N) mst bst ρ1)) rfl dL_quenches_150 (fun Hp9 lc9 Mz9 => ?_)
            refine lv_aload_n hx hb dL_quenches_151 rfl (lv_at hl9 1 rfl) ?_
            refine lv_iload_n hx hb dL_quenches_152 rfl (lv_at hl9 4 rfl) ?_
            refine lv_iconst (v := 0) hx hb dL_quenches_153 (by decide) ?_
            refine z_callW (As := [.ref (ad 0), .int (nI (i)), .int 0]) (rest := []) (zX_k ea mi sa) hX Z Mz9 (hc_hard hI1 hi9 (j := 0) (by decide) _) (vx_cwSW 3 hts gL_quenches_L_hardness rfl rfl rfl (by decide +kernel) ⟨by decide, by decide⟩) rfl hl9.1 (Nat.le_of_ble_eq_true rfl) dL_quenches_154 ⟨by show _ ≤ 320; omega, by show _ ≤ 4480; omega⟩ rfl (fun u9 Hp9 lc9 Mz9 => ?_)
            refine zn_top (y := nI (hvq kk 100 0)) ((QN_hd h20 hq1 (show 0 < 8 by decide)).1) ?_
            refine lv_istore (lv' := [(8, .int (nI (hvq kk 100 0))), (7, .int (nI (N 3))), (0, .ref (ad 0)), (1, .ref (av 0)), (2, .ref (av 1)), (3, .int (nI (i))), (4, .int (y9)), (5, .int (x9)), (6, .int (cnQ N ρ x9 (N 1)))]) hx hb dL_quenches_157 hl9 (by decide) rfl (fun sl9 hl9 => ?_)
            refine lv_aload_n hx hb dL_quenches_159 rfl (lv_at hl9 2 rfl) ?_
            refine lv_iload_n hx hb dL_quenches_160 rfl (lv_at hl9 5 rfl) ?_
            refine lv_bipush (v := 100) hx hb dL_quenches_161 (by decide) ?_
            refine lv_iload hx hb dL_quenches_163 (lv_at hl9 6 rfl) ?_
            refine lv_bipush (v := 7) hx hb dL_quenches_165 (by decide) ?_
            refine lv_ishr hx hb dL_quenches_167 ?_
            refine lv_sipush (v := 601) hx hb dL_quenches_168 (by decide) ?_
            obtain ⟨q3, b3, z3⟩ := ln_low2 l (y9 >>> (7 &&& 31)) 601 (by decide)
            refine z_callSi (As := [.int (y9 >>> (7 &&& 31)), .int 601]) (rest := [.int 100, .int (nI (i)), .ref (ad 0)]) Z.1 z3 (va_cwS 2 hts gL_quenches_L_low rfl rfl rfl (by decide +kernel) ⟨by decide, by decide⟩) rfl hl9.1 (Nat.le_of_ble_eq_true rfl) dL_quenches_171 ⟨by show _ ≤ 320; omega, by show _ ≤ 4480; omega⟩ rfl ?_
            refine zn_iadd (a := 100) (b := q3) hx hb dL_quenches_174 ?_
            obtain ⟨hw2, hI2⟩ := hc_temper (l := l) (D := D) (T := T) (ea := ea) (mi := mi) (sa := sa) hI1 hi9 hld9 hq1 (w := 100 + q3) (by omega) (by omega)
            obtain ⟨n2, hn2⟩ : ∃ n2, n2 = max 100 (100 + q3) := ⟨_, rfl⟩
            have hq2 := QN_up hq1 (w := 100 + q3) (by omega) (by omega)
            rw [← hn2] at hw2 hI2 hq2
            obtain ⟨ρ2, hρ2⟩ : ∃ q, q = upB ρ1 i (upd (ρ1 (100 + 3 * i)) 16 (nI n2)) (ρ1 (101 + 3 * i)) (ρ1 (102 + 3 * i)) := ⟨_, rfl⟩
            rw [← hρ2] at hw2 hI2
            have f1 : ρ2 (100 + 3 * i) = upd (ρ1 (100 + 3 * i)) 16 (nI n2) := by rw [hρ2]; exact upB_b
            have f2 : ρ2 (102 + 3 * i) = ρ1 (102 + 3 * i) := by rw [hρ2]; exact upB_q
            rw [← f1, ← f2] at hq2
            have f14 : ρ2 (100 + 3 * i) 14 = nI (N 3) := hq2.1
            have f7 : ρ2 (100 + 3 * i) 7 = 20 := by rw [f1]; exact e7
            have f8 : ρ2 (100 + 3 * i) 8 = 20 := by rw [f1]; exact e8
            have hs1 := (QN_LH h20 hq2).2.2 0 (by decide)
            have hs2 : hvq kk n2 0 ≤ hvq kk 100 0 := by unfold hvq; omega
            have hs3 := (QN_hd h20 hq1 (show 0 < 8 by decide)).2
            have hn27 := hq2.2.2.1
            have hs4 := (QN_LH h20 hq2).2.1
            refine z_callW (As := [.ref (ad 0), .int (nI (i)), .int (nI (100 + q3))]) (rest := []) (zX_k ea mi sa) hX Z Mz9 (hw2 _) (vx_cwSW 3 hts gL_quenches_L_temper rfl rfl rfl (by decide +kernel) ⟨by decide, by decide⟩) rfl hl9.1 (Nat.le_of_ble_eq_true rfl) dL_quenches_175 ⟨by show _ ≤ 320; omega, by show _ ≤ 4480; omega⟩ rfl (fun u9 Hp9 lc9 Mz9 => ?_)
            refine lv_istore (lv' := [(9, .int (nI (mn8 (hvq kk n2) 7))), (8, .int (nI (hvq kk 100 0))), (7, .int (nI (N 3))), (0, .ref (ad 0)), (1, .ref (av 0)), (2, .ref (av 1)), (3, .int (nI (i))), (4, .int (y9)), (5, .int (x9)), (6, .int (cnQ N ρ x9 (N 1)))]) hx hb dL_quenches_178 hl9 (by decide) rfl (fun sl9 hl9 => ?_)
            refine lv_iload hx hb dL_quenches_180 (lv_at hl9 2 rfl) ?_
            refine lv_aload_n hx hb dL_quenches_182 rfl (lv_at hl9 4 rfl) ?_
            refine lv_iconst (v := 3) hx hb dL_quenches_183 (by decide) ?_
            refine z_iald Z Mz9 0 (h0 := av 0) (n := 6) (f := upd ga 3 (nI ((N 3) + 1))) rfl (j := 3) (by decide) (by decide) dL_quenches_184 ?_
            refine zn_top (y := nI (N 3 + 1)) (upd_same _ _ _) ?_
            refine lv_iconst (v := 1) hx hb dL_quenches_185 (by decide) ?_
            refine zn_isub (a := N 3 + 1) (b := 1) (by omega) hx hb dL_quenches_186 ?_
            refine zn_icmp_ne (a := N 3) (b := (N 3 + 1) - 1) (tgt := 284) (by omega) (by omega) hx hb dL_quenches_187 (by decide) (fun h => absurd h (fun q => q (by omega))) (fun _ => ?_)
            refine lv_aload_n hx hb dL_quenches_190 rfl (lv_at hl9 3 rfl) ?_
            refine lv_iload_n hx hb dL_quenches_191 rfl (lv_at hl9 6 rfl) ?_
            refine lv_bipush (v := 8) hx hb dL_quenches_192 (by decide) ?_
            refine z_callW (As := [.ref (ad 0), .int (nI (i)), .int 8]) (rest := []) (zX_k ea mi sa) hX Z Mz9 (hc_bIs8 hI2 hi9 _) (vx_cwSW 3 hts gL_quenches_L_billetIs rfl rfl rfl (by decide +kernel) ⟨by decide, by decide⟩) rfl hl9.1 (Nat.le_of_ble_eq_true rfl) dL_quenches_194 ⟨by show _ ≤ 320; omega, by show _ ≤ 4480; omega⟩ rfl (fun u9 Hp9 lc9 Mz9 => ?_)
            refine zn_top (y := nI (N 3)) (f14) ?_
            refine lv_iload hx hb dL_quenches_197 (lv_at hl9 2 rfl) ?_
            refine zn_icmp_ne (a := N 3) (b := N 3) (tgt := 284) (by omega) (by omega) hx hb dL_quenches_199 (by decide) (fun h => absurd h (fun q => q rfl)) (fun _ => ?_)
            refine lv_aload_n hx hb dL_quenches_202 rfl (lv_at hl9 3 rfl) ?_
            refine lv_iload_n hx hb dL_quenches_203 rfl (lv_at hl9 6 rfl) ?_
            refine lv_iconst (v := 0) hx hb dL_quenches_204 (by decide) ?_
            refine z_callW (As := [.ref (ad 0), .int (nI (i)), .int 0]) (rest := []) (zX_k ea mi sa) hX Z Mz9 (hc_bIs0 hI2 hi9 _) (vx_cwSW 3 hts gL_quenches_L_billetIs rfl rfl rfl (by decide +kernel) ⟨by decide, by decide⟩) rfl hl9.1 (Nat.le_of_ble_eq_true rfl) dL_quenches_205 ⟨by show _ ≤ 320; omega, by show _ ≤ 4480; omega⟩ rfl (fun u9 Hp9 lc9 Mz9 => ?_)
            refine zn_top (y := 20) (f7) ?_
            refine lv_bipush (v := 20) hx hb dL_quenches_208 (by decide) ?_
            refine lv_icmp_ne (tgt := 284) hx hb dL_quenches_210 (by decide) (fun h => absurd h (by decide)) (fun _ => ?_)
            refine lv_aload_n hx hb dL_quenches_213 rfl (lv_at hl9 3 rfl) ?_
            refine lv_iload_n hx hb dL_quenches_214 rfl (lv_at hl9 6 rfl) ?_
            refine lv_iconst (v := 1) hx hb dL_quenches_215 (by decide) ?_
            refine z_callW (As := [.ref (ad 0), .int (nI (i)), .int 1]) (rest := []) (zX_k ea mi sa) hX Z Mz9 (hc_bIs1 hI2 hi9 _) (vx_cwSW 3 hts gL_quenches_L_billetIs rfl rfl rfl (by decide +kernel) ⟨by decide, by decide⟩) rfl hl9.1 (Nat.le_of_ble_eq_true rfl) dL_quenches_216 ⟨by show _ ≤ 320; omega, by show _ ≤ 4480; omega⟩ rfl (fun u9 Hp9 lc9 Mz9 => ?_)
            refine zn_top (y := 20) (f8) ?_
            refine lv_bipush (v := 20) hx hb dL_quenches_219 (by decide) ?_
            refine lv_icmp_ne (tgt := 284) hx hb dL_quenches_221 (by decide) (fun h => absurd h (by decide)) (fun _ => ?_)
            refine lv_iload hx hb dL_quenches_224 (lv_at hl9 0 rfl) ?_
            refine zn_if_lt (a := mn8 (hvq kk n2) 7) (tgt := 284) (by omega) hx hb dL_quenches_226 (by decide) (fun h => absurd h (fun q => q)) (fun _ => ?_)
            refine lv_iload hx hb dL_quenches_229 (lv_at hl9 0 rfl) ?_
            refine lv_iload hx hb dL_quenches_231 (lv_at hl9 1 rfl) ?_
            refine zn_icmp_gt (a := mn8 (hvq kk n2) 7) (b := hvq kk 100 0) (tgt := 284) (by omega) (by omega) hx hb dL_quenches_233 (by decide) (fun h => absurd h (by omega)) (fun _ => ?_)
            refine lv_aload_n hx hb dL_quenches_236 rfl (lv_at hl9 3 rfl) ?_
            refine lv_iload_n hx hb dL_quenches_237 rfl (lv_at hl9 6 rfl) ?_
            refine lv_bipush (v := 100) hx hb dL_quenches_238 (by decide) ?_
            obtain ⟨hw3, hI3⟩ := hc_temper (l := l) (D := D) (T := T) (ea := ea) (mi := mi) (sa := sa) hI2 hi9 hld9 hq2 (w := 100) (by decide) (by decide)
            have hq3 := QN_up hq2 (w := 100) (by decide) (by decide)
            rw [show max n2 100 = n2 by omega] at hw3 hI3 hq3
            obtain ⟨ρ3, hρ3⟩ : ∃ q, q = upB ρ2 i (upd (ρ2 (100 + 3 * i)) 16 (nI n2)) (ρ2 (101 + 3 * i)) (ρ2 (102 + 3 * i)) := ⟨_, rfl⟩
            rw [← hρ3] at hw3 hI3
            have g1 : ρ3 (100 + 3 * i) = upd (ρ2 (100 + 3 * i)) 16 (nI n2) := by rw [hρ3]; exact upB_b
            have g2 : ρ3 (102 + 3 * i) = ρ2 (102 + 3 * i) := by rw [hρ3]; exact upB_q
            rw [← g1, ← g2] at hq3
            refine z_callW (As := [.ref (ad 0), .int (nI (i)), .int 100]) (rest := []) (zX_k ea mi sa) hX Z Mz9 (hw3 _) (vx_cwSW 3 hts gL_quenches_L_temper rfl rfl rfl (by decide +kernel) ⟨by decide, by decide⟩) rfl hl9.1 (Nat.le_of_ble_eq_true rfl) dL_quenches_240 ⟨by show _ ≤ 320; omega, by show _ ≤ 4480; omega⟩ rfl (fun u9 Hp9 lc9 Mz9 => ?_)
            refine lv_iload hx hb dL_quenches_243 (lv_at hl9 0 rfl) ?_
            refine zn_icmp_ne (a := mn8 (hvq kk n2) 7) (b := mn8 (hvq kk n2) 7) (tgt := 284) (by omega) (by omega) hx hb dL_quenches_245 (by decide) (fun h => absurd h (fun q => q rfl)) (fun _ => ?_)
            refine lv_iload hx hb dL_quenches_248 (lv_at hl9 7 rfl) ?_
            refine lv_bipush (v := 16) hx hb dL_quenches_250 (by decide) ?_
            refine lv_ishr hx hb dL_quenches_252 ?_
            refine lv_iconst (v := 2) hx hb dL_quenches_253 (by decide) ?_
            obtain ⟨q4, b4, z4⟩ := ln_low2 l (y9 >>> (16 &&& 31)) 2 (by decide)
            refine z_callSi (As := [.int (y9 >>> (16 &&& 31)), .int 2]) (rest := []) Z.1 z4 (va_cwS 2 hts gL_quenches_L_low rfl rfl rfl (by decide +kernel) ⟨by decide, by decide⟩) rfl hl9.1 (Nat.le_of_ble_eq_true rfl) dL_quenches_254 ⟨by show _ ≤ 320; omega, by show _ ≤ 4480; omega⟩ rfl ?_
            refine zn_if_eq (a := q4) (tgt := 280) (by omega) hx hb dL_quenches_257 (by decide) (fun c_3 => ?_) (fun c_3 => ?_)
            ·
              refine lv_iconst (v := 1) hx hb dL_quenches_280 (by decide) ?_
              refine lv_goto (tgt := 285) hx hb dL_quenches_281 (by decide) ?_
              exact hret _ _ _ _ _ sl9 _ _ (⟨((J, ad, Nq N, mst, bst, ρ3), upd ga 3 (nI ((N 3) + 1)), ma, aa, ca, ta), ⟨(I_le (Nat.le_succ C) hI3), (GR_q hGr), rfl⟩⟩) Mz9 rfl (rfl) rfl (by show _ ≤ 320; omega) (by show _ ≤ 4480; omega) dL_quenches_285
            ·
              refine lv_aload_n hx hb dL_quenches_260 rfl (lv_at hl9 3 rfl) ?_
              refine lv_iload_n hx hb dL_quenches_261 rfl (lv_at hl9 6 rfl) ?_
              obtain ⟨ρ4, hw4, e17, hI4⟩ := hc_test (l := l) (D := D) (T := T) (ea := ea) (mi := mi) (sa := sa) hI3 hi9 hld9 hq3
              refine z_callW (As := [.ref (ad 0), .int (nI (i))]) (rest := []) (zX_k ea mi sa) hX Z Mz9 (hw4 _) (vx_cwSW 2 hts gL_quenches_L_test rfl rfl rfl (by decide +kernel) ⟨by decide, by decide⟩) rfl hl9.1 (Nat.le_of_ble_eq_true rfl) dL_quenches_262 ⟨by show _ ≤ 320; omega, by show _ ≤ 4480; omega⟩ rfl (fun u9 Hp9 lc9 Mz9 => ?_)
              refine lv_iload hx hb dL_quenches_265 (lv_at hl9 0 rfl) ?_
              refine zn_icmp_ne (a := mn8 (hvq kk n2) 7) (b := mn8 (hvq kk n2) 7) (tgt := 284) (by omega) (by omega) hx hb dL_quenches_267 (by decide) (fun h => absurd h (fun q => q rfl)) (fun _ => ?_)
              refine lv_aload_n hx hb dL_quenches_270 rfl (lv_at hl9 3 rfl) ?_
              refine lv_iload_n hx hb dL_quenches_271 rfl (lv_at hl9 6 rfl) ?_
              refine lv_iconst (v := 0) hx hb dL_quenches_272 (by decide) ?_
              obtain ⟨pk, hpk, hw5⟩ := hc_paper (l := l) (D := D) (T := T) (ea := ea) (mi := mi) (sa := sa) hCb hI4 hi9 (n := 0) (by decide)
              refine z_callW (As := [.ref (ad 0), .int (nI (i)), .int 0]) (rest := []) (zX_k ea mi sa) hX Z Mz9 (hw5 _) (vx_cwSW 3 hts gL_quenches_L_paper rfl rfl rfl (by decide +kernel) ⟨by decide, by decide⟩) rfl hl9.1 (Nat.le_of_ble_eq_true rfl) dL_quenches_273 ⟨by show _ ≤ 320; omega, by show _ ≤ 4480; omega⟩ rfl (fun u9 Hp9 lc9 Mz9 => ?_)
              refine zn_top (y := (-1)) (hpk.2.2 e17) ?_
              refine lv_iconst (v := (-1)) hx hb dL_quenches_276 (by decide) ?_
              refine lv_icmp_ne (tgt := 284) hx hb dL_quenches_277 (by decide) (fun h => absurd h (by decide)) (fun _ => ?_)
              refine lv_iconst (v := 1) hx hb dL_quenches_280 (by decide) ?_
              refine lv_goto (tgt := 285) hx hb dL_quenches_281 (by decide) ?_
              exact hret _ _ _ _ _ sl9 _ _ (⟨((J, ad, Nq N, mst, bst, ρ4), upd ga 3 (nI ((N 3) + 1)), ma, aa, ca, ta), ⟨(I_le (Nat.le_succ C) hI4), (GR_q hGr), rfl⟩⟩) Mz9 rfl (rfl) rfl (by show _ ≤ 320; omega) (by show _ ≤ 4480; omega) dL_quenches_285
        | succ n49 ih49 =>
          intro k hk9 Hp9 lc9 sl9 Mz9 hl9
          refine lv_iload hx hb dL_quenches_49 (lv_at hl9 7 rfl) ?_
          refine lv_aload_n hx hb dL_quenches_51 rfl (lv_at hl9 1 rfl) ?_
          refine lv_iconst (v := 1) hx hb dL_quenches_52 (by decide) ?_
          refine z_iald Z Mz9 0 (h0 := av 0) (n := 6) (f := ga) rfl (j := 1) (by decide) (by decide) dL_quenches_53 ?_
          refine zn_top (y := nI (N 1)) (hg1) ?_
          refine zn_icmp_ge (a := k) (b := N 1) (tgt := 109) (by omega) (by omega) hx hb dL_quenches_54 (by decide) (fun h => absurd h (by omega)) (fun _ => ?_)
          refine lv_iload hx hb dL_quenches_57 (lv_at hl9 6 rfl) ?_
          refine lv_if_eq (tgt := 100) hx hb dL_quenches_59 (by decide) (fun c_4 => ?_) (fun c_4 => ?_)
          ·
            refine lv_iconst (v := 0) hx hb dL_quenches_100 (by decide) ?_
            refine zn_top (y := cnQ N ρ x9 (k + 1)) (show (0 : Int32) = cnQ N ρ x9 (k + 1) by rw [cnQ_s, if_pos c_4]) ?_
            refine lv_istore (lv' := [(6, .int (cnQ N ρ x9 (k + 1))), (0, .ref (ad 0)), (1, .ref (av 0)), (2, .ref (av 1)), (3, .int (nI (i))), (4, .int (y9)), (5, .int (x9)), (7, .int (nI (k)))]) hx hb dL_quenches_101 hl9 (by decide) rfl (fun sl9 hl9 => ?_)
            refine lv_iinc (v := nI (k + 1)) (lv' := [(7, .int (nI (k + 1))), (6, .int (cnQ N ρ x9 (k + 1))), (0, .ref (ad 0)), (1, .ref (av 0)), (2, .ref (av 1)), (3, .int (nI (i))), (4, .int (y9)), (5, .int (x9))]) hx hb dL_quenches_103 hl9 (k := 7) rfl (nI_add (k) 1) (by decide) rfl (fun sl9 hl9 => ?_)
            refine lv_goto (tgt := 49) hx hb dL_quenches_106 (by decide) ?_
            refine W.widen (show _ ≤ 0 + 10 * (k + 1) by omega) (show _ ≤ 0 + 140 * (k + 1) by omega) ?_
            exact ih49 (k + 1) (by omega)  _ _ _ Mz9 (lv_sub hl9 [2, 3, 4, 5, 6, 7, 1, 0] rfl)
          ·
            refine lv_iload hx hb dL_quenches_62 (lv_at hl9 5 rfl) ?_
            refine lv_iload hx hb dL_quenches_64 (lv_at hl9 7 rfl) ?_
            refine lv_ishr hx hb dL_quenches_66 ?_
            refine lv_iconst (v := 1) hx hb dL_quenches_67 (by decide) ?_
            refine lv_iand hx hb dL_quenches_68 ?_
            refine lv_if_eq (tgt := 96) hx hb dL_quenches_69 (by decide) (fun c_5 => ?_) (fun c_5 => ?_)
            ·
              refine lv_iconst (v := 1) hx hb dL_quenches_96 (by decide) ?_
              refine lv_goto (tgt := 101) hx hb dL_quenches_97 (by decide) ?_
              refine zn_top (y := cnQ N ρ x9 (k + 1)) (show (1 : Int32) = cnQ N ρ x9 (k + 1) by rw [cnQ_s, if_neg c_4, if_pos c_5]) ?_
              refine lv_istore (lv' := [(6, .int (cnQ N ρ x9 (k + 1))), (0, .ref (ad 0)), (1, .ref (av 0)), (2, .ref (av 1)), (3, .int (nI (i))), (4, .int (y9)), (5, .int (x9)), (7, .int (nI (k)))]) hx hb dL_quenches_101 hl9 (by decide) rfl (fun sl9 hl9 => ?_)
              refine lv_iinc (v := nI (k + 1)) (lv' := [(7, .int (nI (k + 1))), (6, .int (cnQ N ρ x9 (k + 1))), (0, .ref (ad 0)), (1, .ref (av 0)), (2, .ref (av 1)), (3, .int (nI (i))), (4, .int (y9)), (5, .int (x9))]) hx hb dL_quenches_103 hl9 (k := 7) rfl (nI_add (k) 1) (by decide) rfl (fun sl9 hl9 => ?_)
              refine lv_goto (tgt := 49) hx hb dL_quenches_106 (by decide) ?_
              refine W.widen (show _ ≤ 0 + 10 * (k + 1) by omega) (show _ ≤ 0 + 140 * (k + 1) by omega) ?_
              exact ih49 (k + 1) (by omega)  _ _ _ Mz9 (lv_sub hl9 [2, 3, 4, 5, 6, 7, 1, 0] rfl)
            ·
              refine lv_aload_n hx hb dL_quenches_72 rfl (lv_at hl9 0 rfl) ?_
              refine lv_iload hx hb dL_quenches_73 (lv_at hl9 7 rfl) ?_
              refine lv_iconst (v := 1) hx hb dL_quenches_75 (by decide) ?_
              refine z_callW (As := [.ref (ad 0), .int (nI (k)), .int 1]) (rest := []) (zX_k ea mi sa) hX Z Mz9 (hc_bIs1 hI (show k < N 1 by omega) _) (vx_cwSW 3 hts gL_quenches_L_billetIs rfl rfl rfl (by decide +kernel) ⟨by decide, by decide⟩) rfl hl9.1 (Nat.le_of_ble_eq_true rfl) dL_quenches_76 ⟨by show _ ≤ 320; omega, by show _ ≤ 4480; omega⟩ rfl (fun u9 Hp9 lc9 Mz9 => ?_)
              refine lv_sipush (v := 800) hx hb dL_quenches_79 (by decide) ?_
              refine lv_icmp_lt (tgt := 100) hx hb dL_quenches_82 (by decide) (fun c_6 => ?_) (fun c_6 => ?_)
              ·
                refine lv_iconst (v := 0) hx hb dL_quenches_100 (by decide) ?_
                refine zn_top (y := cnQ N ρ x9 (k + 1)) (show (0 : Int32) = cnQ N ρ x9 (k + 1) by rw [cnQ_s, if_neg c_4, if_neg c_5, if_pos c_6]) ?_
                refine lv_istore (lv' := [(6, .int (cnQ N ρ x9 (k + 1))), (0, .ref (ad 0)), (1, .ref (av 0)), (2, .ref (av 1)), (3, .int (nI (i))), (4, .int (y9)), (5, .int (x9)), (7, .int (nI (k)))]) hx hb dL_quenches_101 hl9 (by decide) rfl (fun sl9 hl9 => ?_)
                refine lv_iinc (v := nI (k + 1)) (lv' := [(7, .int (nI (k + 1))), (6, .int (cnQ N ρ x9 (k + 1))), (0, .ref (ad 0)), (1, .ref (av 0)), (2, .ref (av 1)), (3, .int (nI (i))), (4, .int (y9)), (5, .int (x9))]) hx hb dL_quenches_103 hl9 (k := 7) rfl (nI_add (k) 1) (by decide) rfl (fun sl9 hl9 => ?_)
                refine lv_goto (tgt := 49) hx hb dL_quenches_106 (by decide) ?_
                refine W.widen (show _ ≤ 0 + 10 * (k + 1) by omega) (show _ ≤ 0 + 140 * (k + 1) by omega) ?_
                exact ih49 (k + 1) (by omega)  _ _ _ Mz9 (lv_sub hl9 [2, 3, 4, 5, 6, 7, 1, 0] rfl)
              ·
                refine lv_aload_n hx hb dL_quenches_85 rfl (lv_at hl9 0 rfl) ?_
                refine lv_iload hx hb dL_quenches_86 (lv_at hl9 7 rfl) ?_
                refine lv_bipush (v := 6) hx hb dL_quenches_88 (by decide) ?_
                refine z_callW (As := [.ref (ad 0), .int (nI (k)), .int 6]) (rest := []) (zX_k ea mi sa) hX Z Mz9 (hc_bIs6 hI (show k < N 1 by omega) _) (vx_cwSW 3 hts gL_quenches_L_billetIs rfl rfl rfl (by decide +kernel) ⟨by decide, by decide⟩) rfl hl9.1 (Nat.le_of_ble_eq_true rfl) dL_quenches_90 ⟨by show _ ≤ 320; omega, by show _ ≤ 4480; omega⟩ rfl (fun u9 Hp9 lc9 Mz9 => ?_)
                refine zn_top (y := ρ (100 + 3 * k) 12) (cr01 (I_B hI (show k < N 1 by omega)).2.2.2.2.2.2.2.1) ?_
                refine lv_if_ne (tgt := 100) hx hb dL_quenches_93 (by decide) (fun c_7 => ?_) (fun c_7 => ?_)
                ·
                  refine lv_iconst (v := 0) hx hb dL_quenches_100 (by decide) ?_
                  refine zn_top (y := cnQ N ρ x9 (k + 1)) (show (0 : Int32) = cnQ N ρ x9 (k + 1) by rw [cnQ_s, if_neg c_4, if_neg c_5, if_neg c_6, if_neg c_7]) ?_
                  refine lv_istore (lv' := [(6, .int (cnQ N ρ x9 (k + 1))), (0, .ref (ad 0)), (1, .ref (av 0)), (2, .ref (av 1)), (3, .int (nI (i))), (4, .int (y9)), (5, .int (x9)), (7, .int (nI (k)))]) hx hb dL_quenches_101 hl9 (by decide) rfl (fun sl9 hl9 => ?_)
                  refine lv_iinc (v := nI (k + 1)) (lv' := [(7, .int (nI (k + 1))), (6, .int (cnQ N ρ x9 (k + 1))), (0, .ref (ad 0)), (1, .ref (av 0)), (2, .ref (av 1)), (3, .int (nI (i))), (4, .int (y9)), (5, .int (x9))]) hx hb dL_quenches_103 hl9 (k := 7) rfl (nI_add (k) 1) (by decide) rfl (fun sl9 hl9 => ?_)
                  refine lv_goto (tgt := 49) hx hb dL_quenches_106 (by decide) ?_
                  refine W.widen (show _ ≤ 0 + 10 * (k + 1) by omega) (show _ ≤ 0 + 140 * (k + 1) by omega) ?_
                  exact ih49 (k + 1) (by omega)  _ _ _ Mz9 (lv_sub hl9 [2, 3, 4, 5, 6, 7, 1, 0] rfl)
                ·
                  refine lv_iconst (v := 1) hx hb dL_quenches_96 (by decide) ?_
                  refine lv_goto (tgt := 101) hx hb dL_quenches_97 (by decide) ?_
                  refine zn_top (y := cnQ N ρ x9 (k + 1)) (show (1 : Int32) = cnQ N ρ x9 (k + 1) by rw [cnQ_s, if_neg c_4, if_neg c_5, if_neg c_6, if_pos c_7]) ?_
                  refine lv_istore (lv' := [(6, .int (cnQ N ρ x9 (k + 1))), (0, .ref (ad 0)), (1, .ref (av 0)), (2, .ref (av 1)), (3, .int (nI (i))), (4, .int (y9)), (5, .int (x9)), (7, .int (nI (k)))]) hx hb dL_quenches_101 hl9 (by decide) rfl (fun sl9 hl9 => ?_)
                  refine lv_iinc (v := nI (k + 1)) (lv' := [(7, .int (nI (k + 1))), (6, .int (cnQ N ρ x9 (k + 1))), (0, .ref (ad 0)), (1, .ref (av 0)), (2, .ref (av 1)), (3, .int (nI (i))), (4, .int (y9)), (5, .int (x9))]) hx hb dL_quenches_103 hl9 (k := 7) rfl (nI_add (k) 1) (by decide) rfl (fun sl9 hl9 => ?_)
                  refine lv_goto (tgt := 49) hx hb dL_quenches_106 (by decide) ?_
                  refine W.widen (show _ ≤ 0 + 10 * (k + 1) by omega) (show _ ≤ 0 + 140 * (k + 1) by omega) ?_
                  exact ih49 (k + 1) (by omega)  _ _ _ Mz9 (lv_sub hl9 [2, 3, 4, 5, 6, 7, 1, 0] rfl)
      refine W.widen (show _ ≤ 0 + 10 * 0 by omega) (show _ ≤ 0 + 140 * 0 by omega) ?_
      exact LP49_1 ((N 1) - 0) (0) (by omega)  _ _ _ Mz9 (lv_sub hl9 [3, 4, 5, 6, 7, 2, 1, 0] rfl)
    ·
      refine lv_iconst (v := 1) hx hb dL_quenches_39 (by decide) ?_
      refine lv_goto (tgt := 44) hx hb dL_quenches_40 (by decide) ?_
      refine zn_top (y := cnQ N ρ x9 0) (show (1 : Int32) = cnQ N ρ x9 0 by rw [cnQ_0]; exact (if_pos ((nI_ltI (b := 20) (by omega) (by decide)).mpr (by omega))).symm) ?_
      refine lv_istore (lv' := [(6, .int (cnQ N ρ x9 0)), (5, .int (x9)), (0, .ref (ad 0)), (1, .ref (av 0)), (2, .ref (av 1)), (3, .int (nI (i))), (4, .int (y9))]) hx hb dL_quenches_44 hl9 (by decide) rfl (fun sl9 hl9 => ?_)
      refine lv_iconst (v := 0) hx hb dL_quenches_46 (by decide) ?_
      refine lv_istore (lv' := [(7, .int 0), (6, .int (cnQ N ρ x9 0)), (5, .int (x9)), (0, .ref (ad 0)), (1, .ref (av 0)), (2, .ref (av 1)), (3, .int (nI (i))), (4, .int (y9))]) hx hb dL_quenches_47 hl9 (by decide) rfl (fun sl9 hl9 => ?_)
      have LP49_2 : ∀ (n49 k : Nat), k + n49 = N 1 → ∀ (Hp9 : Heap) (lc9 : List Loc) (sl9 : Array Slot), zM D A s.heap (lwR T av ga ma aa ca ta ++ iw J ad (hG ad T ea nof N mst bst ρ)) Hp9 lc9 → lv_has sl9 10 [(0, .ref (ad 0)), (1, .ref (av 0)), (2, .ref (av 1)), (3, .int (nI (i))), (4, .int (y9)), (5, .int (x9)), (6, .int (cnQ N ρ x9 k)), (7, .int (nI (k)))] → W p l e mR9 s m args below meth c Hp9 lc9 (0 + 10 * k) (0 + 140 * k) Q (F0 m 49 sl9 []) := by
        intro n49
        induction n49 with
        | zero =>
          intro k hk9 Hp9 lc9 sl9 Mz9 hl9
          obtain rfl : k = N 1 := by omega
          refine lv_iload hx hb dL_quenches_49 (lv_at hl9 7 rfl) ?_
          refine lv_aload_n hx hb dL_quenches_51 rfl (lv_at hl9 1 rfl) ?_
          refine lv_iconst (v := 1) hx hb dL_quenches_52 (by decide) ?_
          refine z_iald Z Mz9 0 (h0 := av 0) (n := 6) (f := ga) rfl (j := 1) (by decide) (by decide) dL_quenches_53 ?_
          refine zn_top (y := nI (N 1)) (hg1) ?_
          refine zn_icmp_ge (a := N 1) (b := N 1) (tgt := 109) (by omega) (by omega) hx hb dL_quenches_54 (by decide) (fun _ => ?_) (fun h => absurd h (by omega))
          refine lv_aload_n hx hb dL_quenches_109 rfl (lv_at hl9 0 rfl) ?_
          refine lv_iload hx hb dL_quenches_110 (lv_at hl9 5 rfl) ?_
          refine lv_iload hx hb dL_quenches_112 (lv_at hl9 4 rfl) ?_
          refine lv_bipush (v := 6) hx hb dL_quenches_114 (by decide) ?_
          refine lv_ishr hx hb dL_quenches_116 ?_
          refine lv_iconst (v := 2) hx hb dL_quenches_117 (by decide) ?_
          obtain ⟨q5, b5, z5⟩ := ln_low2 l (y9 >>> (6 &&& 31)) 2 (by decide)
          refine z_callSi (As := [.int (y9 >>> (6 &&& 31)), .int 2]) (rest := [.int (x9), .ref (ad 0)]) Z.1 z5 (va_cwS 2 hts gL_quenches_L_low rfl rfl rfl (by decide +kernel) ⟨by decide, by decide⟩) rfl hl9.1 (Nat.le_of_ble_eq_true rfl) dL_quenches_118 ⟨by show _ ≤ 320; omega, by show _ ≤ 4480; omega⟩ rfl ?_
          have hyo : nI q5 = 0 ∨ nI q5 = 1 := by rcases (show q5 = 0 ∨ q5 = 1 by omega) with h | h <;> rw [h] <;> first | exact Or.inl rfl | exact Or.inr rfl
          obtain ⟨hqa, hqb⟩ := hc_quench (l := l) (D := D) (T := T) (ea := ea) (mi := mi) (sa := sa) hfl hI hnx hx9 hx0 hx1 hyo
          by_cases qz : cnQ N ρ x9 (N 1) = 0
          ·
            refine z_callW (As := [.ref (ad 0), .int (x9), .int (nI (q5))]) (rest := []) (zX_k ea mi sa) hX Z Mz9 (hqa qz _) (vx_cwSW 3 hts gL_quenches_L_quench rfl rfl rfl (by decide +kernel) ⟨by decide, by decide⟩) rfl hl9.1 (Nat.le_of_ble_eq_true rfl) dL_quenches_121 ⟨by show _ ≤ 320; omega, by show _ ≤ 4480; omega⟩ rfl (fun u9 Hp9 lc9 Mz9 => ?_)
            refine lv_istore (lv' := [(7, .int (-1000003)), (0, .ref (ad 0)), (1, .ref (av 0)), (2, .ref (av 1)), (3, .int (nI (i))), (4, .int (y9)), (5, .int (x9)), (6, .int (cnQ N ρ x9 (N 1)))]) hx hb dL_quenches_124 hl9 (by decide) rfl (fun sl9 hl9 => ?_)
            refine lv_iload hx hb dL_quenches_126 (lv_at hl9 7 rfl) ?_
            refine lv_if_ne (tgt := 144) hx hb dL_quenches_128 (by decide) (fun h => absurd h (fun q => q qz)) (fun _ => ?_)
            refine lv_iload hx hb dL_quenches_131 (lv_at hl9 0 rfl) ?_
            refine lv_ldc (v := (-1000003)) hx hb Z.1.2.2.2.1 (hts (.constant RL 28 (-1000003)) (by decide +kernel)) dL_quenches_133 ?_
            refine lv_icmp_ne (tgt := 142) hx hb dL_quenches_135 (by decide) (fun h => absurd h (by decide)) (fun _ => ?_)
            refine lv_iconst (v := 1) hx hb dL_quenches_138 (by decide) ?_
            refine lv_goto (tgt := 143) hx hb dL_quenches_139 (by decide) ?_
            exact hret _ _ _ _ _ sl9 _ _ (⟨((J, ad, N, mst, bst, ρ), ga, ma, aa, ca, ta), ⟨(I_le (Nat.le_succ C) hI), hGr, rfl⟩⟩) Mz9 rfl (rfl) rfl (by show _ ≤ 320; omega) (by show _ ≤ 4480; omega) dL_quenches_143
          ·
            obtain ⟨h20, hw1, hI1⟩ := hqb qz
            obtain ⟨kk, hq1, e7, e8, e14⟩ := q_QN (y := nI q5) hI hi hxi
            obtain ⟨ρ1, hρ1⟩ : ∃ q, q = upR (qR x9 (nI q5) (nI (N 3)) bst ρ (N 1)) 0 (fun _ => nI (N 3 + 1)) := ⟨_, rfl⟩
            rw [← hρ1] at hw1 hI1 hq1 e7 e8 e14
            have hi9 : i < Nq N 1 := hi
            have hld9 : N 3 < Nq N 3 := Nat.lt_succ_self (N 3)
            refine z_callW (As := [.ref (ad 0), .int (x9), .int (nI (q5))]) (rest := []) (zX_k ea mi sa) hX Z Mz9 (hw1 _) (vx_cwSW 3 hts gL_quenches_L_quench rfl rfl rfl (by decide +kernel) ⟨by decide, by decide⟩) rfl hl9.1 (Nat.le_of_ble_eq_true rfl) dL_quenches_121 ⟨by show _ ≤ 320; omega, by show _ ≤ 4480; omega⟩ rfl (fun u9 Hp9 lc9 Mz9 => ?_)
            refine lv_istore (lv' := [(7, .int (nI (N 3))), (0, .ref (ad 0)), (1, .ref (av 0)), (2, .ref (av 1)), (3, .int (nI (i))), (4, .int (y9)), (5, .int (x9)), (6, .int (cnQ N ρ x9 (N 1)))]) hx hb dL_quenches_124 hl9 (by decide) rfl (fun sl9 hl9 => ?_)
            refine lv_iload hx hb dL_quenches_126 (lv_at hl9 7 rfl) ?_
            refine lv_if_ne (tgt := 144) hx hb dL_quenches_128 (by decide) (fun _ => ?_) (fun h => absurd h (qz))
            refine lv_aload_n hx hb dL_quenches_144 rfl (lv_at hl9 2 rfl) ?_
            refine lv_iconst (v := 3) hx hb dL_quenches_145 (by decide) ?_
            refine lv_dup2_11 hx hb dL_quenches_146 rfl rfl ?_
            refine z_iald Z Mz9 0 (h0 := av 0) (n := 6) (f := ga) rfl (j := 3) (by decide) (by decide) dL_quenches_147 ?_
            refine zn_top (y := nI (N 3)) (hg3) ?_
            refine lv_iconst (v := 1) hx hb dL_quenches_148 (by decide) ?_
            refine zn_iadd (a := N 3) (b := 1) hx hb dL_quenches_149 ?_
            refine z_iast Z Mz9 0 (h0 := av 0) (n := 6) (f := ga) rfl (j := 3) (x := nI ((N 3) + 1)) (by decide) (by decide) (ws' := lwR T av (upd ga 3 (nI ((N 3) + 1))) ma aa ca ta ++ iw J ad (hG ad T ea nof (Nq N) mst bst ρ1)) rfl dL_quenches_150 (fun Hp9 lc9 Mz9 => ?_)
            refine lv_aload_n hx hb dL_quenches_151 rfl (lv_at hl9 1 rfl) ?_
            refine lv_iload_n hx hb dL_quenches_152 rfl (lv_at hl9 4 rfl) ?_
            refine lv_iconst (v := 0) hx hb dL_quenches_153 (by decide) ?_
            refine z_callW (As := [.ref (ad 0), .int (nI (i)), .int 0]) (rest := []) (zX_k ea mi sa) hX Z Mz9 (hc_hard hI1 hi9 (j := 0) (by decide) _) (vx_cwSW 3 hts gL_quenches_L_hardness rfl rfl rfl (by decide +kernel) ⟨by decide, by decide⟩) rfl hl9.1 (Nat.le_of_ble_eq_true rfl) dL_quenches_154 ⟨by show _ ≤ 320; omega, by show _ ≤ 4480; omega⟩ rfl (fun u9 Hp9 lc9 Mz9 => ?_)
            refine zn_top (y := nI (hvq kk 100 0)) ((QN_hd h20 hq1 (show 0 < 8 by decide)).1) ?_
            refine lv_istore (lv' := [(8, .int (nI (hvq kk 100 0))), (7, .int (nI (N 3))), (0, .ref (ad 0)), (1, .ref (av 0)), (2, .ref (av 1)), (3, .int (nI (i))), (4, .int (y9)), (5, .int (x9)), (6, .int (cnQ N ρ x9 (N 1)))]) hx hb dL_quenches_157 hl9 (by decide) rfl (fun sl9 hl9 => ?_)
            refine lv_aload_n hx hb dL_quenches_159 rfl (lv_at hl9 2 rfl) ?_
            refine lv_iload_n hx hb dL_quenches_160 rfl (lv_at hl9 5 rfl) ?_
            refine lv_bipush (v := 100) hx hb dL_quenches_161 (by decide) ?_
            refine lv_iload hx hb dL_quenches_163 (lv_at hl9 6 rfl) ?_
            refine lv_bipush (v := 7) hx hb dL_quenches_165 (by decide) ?_
            refine lv_ishr hx hb dL_quenches_167 ?_
            refine lv_sipush (v := 601) hx hb dL_quenches_168 (by decide) ?_
            obtain ⟨q6, b6, z6⟩ := ln_low2 l (y9 >>> (7 &&& 31)) 601 (by decide)
            refine z_callSi (As := [.int (y9 >>> (7 &&& 31)), .int 601]) (rest := [.int 100, .int (nI (i)), .ref (ad 0)]) Z.1 z6 (va_cwS 2 hts gL_quenches_L_low rfl rfl rfl (by decide +kernel) ⟨by decide, by decide⟩) rfl hl9.1 (Nat.le_of_ble_eq_true rfl) dL_quenches_171 ⟨by show _ ≤ 320; omega, by show _ ≤ 4480; omega⟩ rfl ?_
            refine zn_iadd (a := 100) (b := q6) hx hb dL_quenches_174 ?_
            obtain ⟨hw2, hI2⟩ := hc_temper (l := l) (D := D) (T := T) (ea := ea) (mi := mi) (sa := sa) hI1 hi9 hld9 hq1 (w := 100 + q6) (by omega) (by omega)
            obtain ⟨n2, hn2⟩ : ∃ n2, n2 = max 100 (100 + q6) := ⟨_, rfl⟩
            have hq2 := QN_up hq1 (w := 100 + q6) (by omega) (by omega)
            rw [← hn2] at hw2 hI2 hq2
            obtain ⟨ρ2, hρ2⟩ : ∃ q, q = upB ρ1 i (upd (ρ1 (100 + 3 * i)) 16 (nI n2)) (ρ1 (101 + 3 * i)) (ρ1 (102 + 3 * i)) := ⟨_, rfl⟩
            rw [← hρ2] at hw2 hI2
            have f1 : ρ2 (100 + 3 * i) = upd (ρ1 (100 + 3 * i)) 16 (nI n2) := by rw [hρ2]; exact upB_b
            have f2 : ρ2 (102 + 3 * i) = ρ1 (102 + 3 * i) := by rw [hρ2]; exact upB_q
            rw [← f1, ← f2] at hq2
            have f14 : ρ2 (100 + 3 * i) 14 = nI (N 3) := hq2.1
            have f7 : ρ2 (100 + 3 * i) 7 = 20 := by rw [f1]; exact e7
            have f8 : ρ2 (100 + 3 * i) 8 = 20 := by rw [f1]; exact e8
            have hs1 := (QN_LH h20 hq2).2.2 0 (by decide)
            have hs2 : hvq kk n2 0 ≤ hvq kk 100 0 := by unfold hvq; omega
            have hs3 := (QN_hd h20 hq1 (show 0 < 8 by decide)).2
            have hn27 := hq2.2.2.1
            have hs4 := (QN_LH h20 hq2).2.1
            refine z_callW (As := [.ref (ad 0), .int (nI (i)), .int (nI (100 + q6))]) (rest := []) (zX_k ea mi sa) hX Z Mz9 (hw2 _) (vx_cwSW 3 hts gL_quenches_L_temper rfl rfl rfl (by decide +kernel) ⟨by decide, by decide⟩) rfl hl9.1 (Nat.le_of_ble_eq_true rfl) dL_quenches_175 ⟨by show _ ≤ 320; omega, by show _ ≤ 4480; omega⟩ rfl (fun u9 Hp9 lc9 Mz9 => ?_)
            refine lv_istore (lv' := [(9, .int (nI (mn8 (hvq kk n2) 7))), (8, .int (nI (hvq kk 100 0))), (7, .int (nI (N 3))), (0, .ref (ad 0)), (1, .ref (av 0)), (2, .ref (av 1)), (3, .int (nI (i))), (4, .int (y9)), (5, .int (x9)), (6, .int (cnQ N ρ x9 (N 1)))]) hx hb dL_quenches_178 hl9 (by decide) rfl (fun sl9 hl9 => ?_)
            refine lv_iload hx hb dL_quenches_180 (lv_at hl9 2 rfl) ?_
            refine lv_aload_n hx hb dL_quenches_182 rfl (lv_at hl9 4 rfl) ?_
            refine lv_iconst (v := 3) hx hb dL_quenches_183 (by decide) ?_
            refine z_iald Z Mz9 0 (h0 := av 0) (n := 6) (f := upd ga 3 (nI ((N 3) + 1))) rfl (j := 3) (by decide) (by decide) dL_quenches_184 ?_
            refine zn_top (y := nI (N 3 + 1)) (upd_same _ _ _) ?_
            refine lv_iconst (v := 1) hx hb dL_quenches_185 (by decide) ?_
            refine zn_isub (a := N 3 + 1) (b := 1) (by omega) hx hb dL_quenches_186 ?_
            refine zn_icmp_ne (a := N 3) (b := (N 3 + 1) - 1) (tgt := 284) (by omega) (by omega) hx hb dL_quenches_187 (by decide) (fun h => absurd h (fun q => q (by omega))) (fun _ => ?_)
            refine lv_aload_n hx hb dL_quenches_190 rfl (lv_at hl9 3 rfl) ?_
            refine lv_iload_n hx hb dL_quenches_191 rfl (lv_at hl9 6 rfl) ?_
            refine lv_bipush (v := 8) hx hb dL_quenches_192 (by decide) ?_
            refine z_callW (As := [.ref (ad 0), .int (nI (i)), .int 8]) (rest := []) (zX_k ea mi sa) hX Z Mz9 (hc_bIs8 hI2 hi9 _) (vx_cwSW 3 hts gL_quenches_L_billetIs rfl rfl rfl (by decide +kernel) ⟨by decide, by decide⟩) rfl hl9.1 (Nat.le_of_ble_eq_true rfl) dL_quenches_194 ⟨by show _ ≤ 320; omega, by show _ ≤ 4480; omega⟩ rfl (fun u9 Hp9 lc9 Mz9 => ?_)
            refine zn_top (y := nI (N 3)) (f14) ?_
            refine lv_iload hx hb dL_quenches_197 (lv_at hl9 2 rfl) ?_
            refine zn_icmp_ne (a := N 3) (b := N 3) (tgt := 284) (by omega) (by omega) hx hb dL_quenches_199 (by decide) (fun h => absurd h (fun q => q rfl)) (fun _ => ?_)
            refine lv_aload_n hx hb dL_quenches_202 rfl (lv_at hl9 3 rfl) ?_
            refine lv_iload_n hx hb dL_quenches_203 rfl (lv_at hl9 6 rfl) ?_
            refine lv_iconst (v := 0) hx hb dL_quenches_204 (by decide) ?_
            refine z_callW (As := [.ref (ad 0), .int (nI (i)), .int 0]) (rest := []) (zX_k ea mi sa) hX Z Mz9 (hc_bIs0 hI2 hi9 _) (vx_cwSW 3 hts gL_quenches_L_billetIs rfl rfl rfl (by decide +kernel) ⟨by decide, by decide⟩) rfl hl9.1 (Nat.le_of_ble_eq_true rfl) dL_quenches_205 ⟨by show _ ≤ 320; omega, by show _ ≤ 4480; omega⟩ rfl (fun u9 Hp9 lc9 Mz9 => ?_)
            refine zn_top (y := 20) (f7) ?_
            refine lv_bipush (v := 20) hx hb dL_quenches_208 (by decide) ?_
            refine lv_icmp_ne (tgt := 284) hx hb dL_quenches_210 (by decide) (fun h => absurd h (by decide)) (fun _ => ?_)
            refine lv_aload_n hx hb dL_quenches_213 rfl (lv_at hl9 3 rfl) ?_
            refine lv_iload_n hx hb dL_quenches_214 rfl (lv_at hl9 6 rfl) ?_
            refine lv_iconst (v := 1) hx hb dL_quenches_215 (by decide) ?_
            refine z_callW (As := [.ref (ad 0), .int (nI (i)), .int 1]) (rest := []) (zX_k ea mi sa) hX Z Mz9 (hc_bIs1 hI2 hi9 _) (vx_cwSW 3 hts gL_quenches_L_billetIs rfl rfl rfl (by decide +kernel) ⟨by decide, by decide⟩) rfl hl9.1 (Nat.le_of_ble_eq_true rfl) dL_quenches_216 ⟨by show _ ≤ 320; omega, by show _ ≤ 4480; omega⟩ rfl (fun u9 Hp9 lc9 Mz9 => ?_)
            refine zn_top (y := 20) (f8) ?_
            refine lv_bipush (v := 20) hx hb dL_quenches_219 (by decide) ?_
            refine lv_icmp_ne (tgt := 284) hx hb dL_quenches_221 (by decide) (fun h => absurd h (by decide)) (fun _ => ?_)
            refine lv_iload hx hb dL_quenches_224 (lv_at hl9 0 rfl) ?_
            refine zn_if_lt (a := mn8 (hvq kk n2) 7) (tgt := 284) (by omega) hx hb dL_quenches_226 (by decide) (fun h => absurd h (fun q => q)) (fun _ => ?_)
            refine lv_iload hx hb dL_quenches_229 (lv_at hl9 0 rfl) ?_
            refine lv_iload hx hb dL_quenches_231 (lv_at hl9 1 rfl) ?_
            refine zn_icmp_gt (a := mn8 (hvq kk n2) 7) (b := hvq kk 100 0) (tgt := 284) (by omega) (by omega) hx hb dL_quenches_233 (by decide) (fun h => absurd h (by omega)) (fun _ => ?_)
            refine lv_aload_n hx hb dL_quenches_236 rfl (lv_at hl9 3 rfl) ?_
            refine lv_iload_n hx hb dL_quenches_237 rfl (lv_at hl9 6 rfl) ?_
            refine lv_bipush (v := 100) hx hb dL_quenches_238 (by decide) ?_
            obtain ⟨hw3, hI3⟩ := hc_temper (l := l) (D := D) (T := T) (ea := ea) (mi := mi) (sa := sa) hI2 hi9 hld9 hq2 (w := 100) (by decide) (by decide)
            have hq3 := QN_up hq2 (w := 100) (by decide) (by decide)
            rw [show max n2 100 = n2 by omega] at hw3 hI3 hq3
            obtain ⟨ρ3, hρ3⟩ : ∃ q, q = upB ρ2 i (upd (ρ2 (100 + 3 * i)) 16 (nI n2)) (ρ2 (101 + 3 * i)) (ρ2 (102 + 3 * i)) := ⟨_, rfl⟩
            rw [← hρ3] at hw3 hI3
            have g1 : ρ3 (100 + 3 * i) = upd (ρ2 (100 + 3 * i)) 16 (nI n2) := by rw [hρ3]; exact upB_b
            have g2 : ρ3 (102 + 3 * i) = ρ2 (102 + 3 * i) := by rw [hρ3]; exact upB_q
            rw [← g1, ← g2] at hq3
            refine z_callW (As := [.ref (ad 0), .int (nI (i)), .int 100]) (rest := []) (zX_k ea mi sa) hX Z Mz9 (hw3 _) (vx_cwSW 3 hts gL_quenches_L_temper rfl rfl rfl (by decide +kernel) ⟨by decide, by decide⟩) rfl hl9.1 (Nat.le_of_ble_eq_true rfl) dL_quenches_240 ⟨by show _ ≤ 320; omega, by show _ ≤ 4480; omega⟩ rfl (fun u9 Hp9 lc9 Mz9 => ?_)
            refine lv_iload hx hb dL_quenches_243 (lv_at hl9 0 rfl) ?_
            refine zn_icmp_ne (a := mn8 (hvq kk n2) 7) (b := mn8 (hvq kk n2) 7) (tgt := 284) (by omega) (by omega) hx hb dL_quenches_245 (by decide) (fun h => absurd h (fun q => q rfl)) (fun _ => ?_)
            refine lv_iload hx hb dL_quenches_248 (lv_at hl9 7 rfl) ?_
            refine lv_bipush (v := 16) hx hb dL_quenches_250 (by decide) ?_
            refine lv_ishr hx hb dL_quenches_252 ?_
            refine lv_iconst (v := 2) hx hb dL_quenches_253 (by decide) ?_
            obtain ⟨q7, b7, z7⟩ := ln_low2 l (y9 >>> (16 &&& 31)) 2 (by decide)
            refine z_callSi (As := [.int (y9 >>> (16 &&& 31)), .int 2]) (rest := []) Z.1 z7 (va_cwS 2 hts gL_quenches_L_low rfl rfl rfl (by decide +kernel) ⟨by decide, by decide⟩) rfl hl9.1 (Nat.le_of_ble_eq_true rfl) dL_quenches_254 ⟨by show _ ≤ 320; omega, by show _ ≤ 4480; omega⟩ rfl ?_
            refine zn_if_eq (a := q7) (tgt := 280) (by omega) hx hb dL_quenches_257 (by decide) (fun c_8 => ?_) (fun c_8 => ?_)
            ·
              refine lv_iconst (v := 1) hx hb dL_quenches_280 (by decide) ?_
              refine lv_goto (tgt := 285) hx hb dL_quenches_281 (by decide) ?_
              exact hret _ _ _ _ _ sl9 _ _ (⟨((J, ad, Nq N, mst, bst, ρ3), upd ga 3 (nI ((N 3) + 1)), ma, aa, ca, ta), ⟨(I_le (Nat.le_succ C) hI3), (GR_q hGr), rfl⟩⟩) Mz9 rfl (rfl) rfl (by show _ ≤ 320; omega) (by show _ ≤ 4480; omega) dL_quenches_285
            ·
              refine lv_aload_n hx hb dL_quenches_260 rfl (lv_at hl9 3 rfl) ?_
              refine lv_iload_n hx hb dL_quenches_261 rfl (lv_at hl9 6 rfl) ?_
              obtain ⟨ρ4, hw4, e17, hI4⟩ := hc_test (l := l) (D := D) (T := T) (ea := ea) (mi := mi) (sa := sa) hI3 hi9 hld9 hq3
              refine z_callW (As := [.ref (ad 0), .int (nI (i))]) (rest := []) (zX_k ea mi sa) hX Z Mz9 (hw4 _) (vx_cwSW 2 hts gL_quenches_L_test rfl rfl rfl (by decide +kernel) ⟨by decide, by decide⟩) rfl hl9.1 (Nat.le_of_ble_eq_true rfl) dL_quenches_262 ⟨by show _ ≤ 320; omega, by show _ ≤ 4480; omega⟩ rfl (fun u9 Hp9 lc9 Mz9 => ?_)
              refine lv_iload hx hb dL_quenches_265 (lv_at hl9 0 rfl) ?_
              refine zn_icmp_ne (a := mn8 (hvq kk n2) 7) (b := mn8 (hvq kk n2) 7) (tgt := 284) (by omega) (by omega) hx hb dL_quenches_267 (by decide) (fun h => absurd h (fun q => q rfl)) (fun _ => ?_)
              refine lv_aload_n hx hb dL_quenches_270 rfl (lv_at hl9 3 rfl) ?_
              refine lv_iload_n hx hb dL_quenches_271 rfl (lv_at hl9 6 rfl) ?_
              refine lv_iconst (v := 0) hx hb dL_quenches_272 (by decide) ?_
              obtain ⟨pk, hpk, hw5⟩ := hc_paper (l := l) (D := D) (T := T) (ea := ea) (mi := mi) (sa := sa) hCb hI4 hi9 (n := 0) (by decide)
              refine z_callW (As := [.ref (ad 0), .int (nI (i)), .int 0]) (rest := []) (zX_k ea mi sa) hX Z Mz9 (hw5 _) (vx_cwSW 3 hts gL_quenches_L_paper rfl rfl rfl (by decide +kernel) ⟨by decide, by decide⟩) rfl hl9.1 (Nat.le_of_ble_eq_true rfl) dL_quenches_273 ⟨by show _ ≤ 320; omega, by show _ ≤ 4480; omega⟩ rfl (fun u9 Hp9 lc9 Mz9 => ?_)
              refine zn_top (y := (-1)) (hpk.2.2 e17) ?_
              refine lv_iconst (v := (-1)) hx hb dL_quenches_276 (by decide) ?_
              refine lv_icmp_ne (tgt := 284) hx hb dL_quenches_277 (by decide) (fun h => absurd h (by decide)) (fun _ => ?_)
              refine lv_iconst (v := 1) hx hb dL_quenches_280 (by decide) ?_
              refine lv_goto (tgt := 285) hx hb dL_quenches_281 (by decide) ?_
              exact hret _ _ _ _ _ sl9 _ _ (⟨((J, ad, Nq N, mst, bst, ρ4), upd ga 3 (nI ((N 3) + 1)), ma, aa, ca, ta), ⟨(I_le (Nat.le_succ C) hI4), (GR_q hGr), rfl⟩⟩) Mz9 rfl (rfl) rfl (by show _ ≤ 320; omega) (by show _ ≤ 4480; omega) dL_quenches_285
        | succ n49 ih49 =>
          intro k hk9 Hp9 lc9 sl9 Mz9 hl9
          refine lv_iload hx hb dL_quenches_49 (lv_at hl9 7 rfl) ?_
          refine lv_aload_n hx hb dL_quenches_51 rfl (lv_at hl9 1 rfl) ?_
          refine lv_iconst (v := 1) hx hb dL_quenches_52 (by decide) ?_
          refine z_iald Z Mz9 0 (h0 := av 0) (n := 6) (f := ga) rfl (j := 1) (by decide) (by decide) dL_quenches_53 ?_
          refine zn_top (y := nI (N 1)) (hg1) ?_
          refine zn_icmp_ge (a := k) (b := N 1) (tgt := 109) (by omega) (by omega) hx hb dL_quenches_54 (by decide) (fun h => absurd h (by omega)) (fun _ => ?_)
          refine lv_iload hx hb dL_quenches_57 (lv_at hl9 6 rfl) ?_
          refine lv_if_eq (tgt := 100) hx hb dL_quenches_59 (by decide) (fun c_9 => ?_) (fun c_9 => ?_)
          ·
            refine lv_iconst (v := 0) hx hb dL_quenches_100 (by decide) ?_
            refine zn_top (y := cnQ N ρ x9 (k + 1)) (show (0 : Int32) = cnQ N ρ x9 (k + 1) by rw [cnQ_s, if_pos c_9]) ?_
            refine lv_istore (lv' := [(6, .int (cnQ N ρ x9 (k + 1))), (0, .ref (ad 0)), (1, .ref (av 0)), (2, .ref (av 1)), (3, .int (nI (i))), (4, .int (y9)), (5, .int (x9)), (7, .int (nI (k)))]) hx hb dL_quenches_101 hl9 (by decide) rfl (fun sl9 hl9 => ?_)
            refine lv_iinc (v := nI (k + 1)) (lv' := [(7, .int (nI (k + 1))), (6, .int (cnQ N ρ x9 (k + 1))), (0, .ref (ad 0)), (1, .ref (av 0)), (2, .ref (av 1)), (3, .int (nI (i))), (4, .int (y9)), (5, .int (x9))]) hx hb dL_quenches_103 hl9 (k := 7) rfl (nI_add (k) 1) (by decide) rfl (fun sl9 hl9 => ?_)
            refine lv_goto (tgt := 49) hx hb dL_quenches_106 (by decide) ?_
            refine W.widen (show _ ≤ 0 + 10 * (k + 1) by omega) (show _ ≤ 0 + 140 * (k + 1) by omega) ?_
            exact ih49 (k + 1) (by omega)  _ _ _ Mz9 (lv_sub hl9 [2, 3, 4, 5, 6, 7, 1, 0] rfl)
          ·
            refine lv_iload hx hb dL_quenches_62 (lv_at hl9 5 rfl) ?_
            refine lv_iload hx hb dL_quenches_64 (lv_at hl9 7 rfl) ?_
            refine lv_ishr hx hb dL_quenches_66 ?_
            refine lv_iconst (v := 1) hx hb dL_quenches_67 (by decide) ?_
            refine lv_iand hx hb dL_quenches_68 ?_
            refine lv_if_eq (tgt := 96) hx hb dL_quenches_69 (by decide) (fun c_10 => ?_) (fun c_10 => ?_)
            ·
              refine lv_iconst (v := 1) hx hb dL_quenches_96 (by decide) ?_
              refine lv_goto (tgt := 101) hx hb dL_quenches_97 (by decide) ?_
              refine zn_top (y := cnQ N ρ x9 (k + 1)) (show (1 : Int32) = cnQ N ρ x9 (k + 1) by rw [cnQ_s, if_neg c_9, if_pos c_10]) ?_
              refine lv_istore (lv' := [(6, .int (cnQ N ρ x9 (k + 1))), (0, .ref (ad 0)), (1, .ref (av 0)), (2, .ref (av 1)), (3, .int (nI (i))), (4, .int (y9)), (5, .int (x9)), (7, .int (nI (k)))]) hx hb dL_quenches_101 hl9 (by decide) rfl (fun sl9 hl9 => ?_)
              refine lv_iinc (v := nI (k + 1)) (lv' := [(7, .int (nI (k + 1))), (6, .int (cnQ N ρ x9 (k + 1))), (0, .ref (ad 0)), (1, .ref (av 0)), (2, .ref (av 1)), (3, .int (nI (i))), (4, .int (y9)), (5, .int (x9))]) hx hb dL_quenches_103 hl9 (k := 7) rfl (nI_add (k) 1) (by decide) rfl (fun sl9 hl9 => ?_)
              refine lv_goto (tgt := 49) hx hb dL_quenches_106 (by decide) ?_
              refine W.widen (show _ ≤ 0 + 10 * (k + 1) by omega) (show _ ≤ 0 + 140 * (k + 1) by omega) ?_
              exact ih49 (k + 1) (by omega)  _ _ _ Mz9 (lv_sub hl9 [2, 3, 4, 5, 6, 7, 1, 0] rfl)
            ·
              refine lv_aload_n hx hb dL_quenches_72 rfl (lv_at hl9 0 rfl) ?_
              refine lv_iload hx hb dL_quenches_73 (lv_at hl9 7 rfl) ?_
              refine lv_iconst (v := 1) hx hb dL_quenches_75 (by decide) ?_
              refine z_callW (As := [.ref (ad 0), .int (nI (k)), .int 1]) (rest := []) (zX_k ea mi sa) hX Z Mz9 (hc_bIs1 hI (show k < N 1 by omega) _) (vx_cwSW 3 hts gL_quenches_L_billetIs rfl rfl rfl (by decide +kernel) ⟨by decide, by decide⟩) rfl hl9.1 (Nat.le_of_ble_eq_true rfl) dL_quenches_76 ⟨by show _ ≤ 320; omega, by show _ ≤ 4480; omega⟩ rfl (fun u9 Hp9 lc9 Mz9 => ?_)
              refine lv_sipush (v := 800) hx hb dL_quenches_79 (by decide) ?_
              refine lv_icmp_lt (tgt := 100) hx hb dL_quenches_82 (by decide) (fun c_11 => ?_) (fun c_11 => ?_)
              ·
                refine lv_iconst (v := 0) hx hb dL_quenches_100 (by decide) ?_
                refine zn_top (y := cnQ N ρ x9 (k + 1)) (show (0 : Int32) = cnQ N ρ x9 (k + 1) by rw [cnQ_s, if_neg c_9, if_neg c_10, if_pos c_11]) ?_
                refine lv_istore (lv' := [(6, .int (cnQ N ρ x9 (k + 1))), (0, .ref (ad 0)), (1, .ref (av 0)), (2, .ref (av 1)), (3, .int (nI (i))), (4, .int (y9)), (5, .int (x9)), (7, .int (nI (k)))]) hx hb dL_quenches_101 hl9 (by decide) rfl (fun sl9 hl9 => ?_)
                refine lv_iinc (v := nI (k + 1)) (lv' := [(7, .int (nI (k + 1))), (6, .int (cnQ N ρ x9 (k + 1))), (0, .ref (ad 0)), (1, .ref (av 0)), (2, .ref (av 1)), (3, .int (nI (i))), (4, .int (y9)), (5, .int (x9))]) hx hb dL_quenches_103 hl9 (k := 7) rfl (nI_add (k) 1) (by decide) rfl (fun sl9 hl9 => ?_)
                refine lv_goto (tgt := 49) hx hb dL_quenches_106 (by decide) ?_
                refine W.widen (show _ ≤ 0 + 10 * (k + 1) by omega) (show _ ≤ 0 + 140 * (k + 1) by omega) ?_
                exact ih49 (k + 1) (by omega)  _ _ _ Mz9 (lv_sub hl9 [2, 3, 4, 5, 6, 7, 1, 0] rfl)
              ·
                refine lv_aload_n hx hb dL_quenches_85 rfl (lv_at hl9 0 rfl) ?_
                refine lv_iload hx hb dL_quenches_86 (lv_at hl9 7 rfl) ?_
                refine lv_bipush (v := 6) hx hb dL_quenches_88 (by decide) ?_
                refine z_callW (As := [.ref (ad 0), .int (nI (k)), .int 6]) (rest := []) (zX_k ea mi sa) hX Z Mz9 (hc_bIs6 hI (show k < N 1 by omega) _) (vx_cwSW 3 hts gL_quenches_L_billetIs rfl rfl rfl (by decide +kernel) ⟨by decide, by decide⟩) rfl hl9.1 (Nat.le_of_ble_eq_true rfl) dL_quenches_90 ⟨by show _ ≤ 320; omega, by show _ ≤ 4480; omega⟩ rfl (fun u9 Hp9 lc9 Mz9 => ?_)
                refine zn_top (y := ρ (100 + 3 * k) 12) (cr01 (I_B hI (show k < N 1 by omega)).2.2.2.2.2.2.2.1) ?_
                refine lv_if_ne (tgt := 100) hx hb dL_quenches_93 (by decide) (fun c_12 => ?_) (fun c_12 => ?_)
                ·
                  refine lv_iconst (v := 0) hx hb dL_quenches_100 (by decide) ?_
                  refine zn_top (y := cnQ N ρ x9 (k + 1)) (show (0 : Int32) = cnQ N ρ x9 (k + 1) by rw [cnQ_s, if_neg c_9, if_neg c_10, if_neg c_11, if_neg c_12]) ?_
                  refine lv_istore (lv' := [(6, .int (cnQ N ρ x9 (k + 1))), (0, .ref (ad 0)), (1, .ref (av 0)), (2, .ref (av 1)), (3, .int (nI (i))), (4, .int (y9)), (5, .int (x9)), (7, .int (nI (k)))]) hx hb dL_quenches_101 hl9 (by decide) rfl (fun sl9 hl9 => ?_)
                  refine lv_iinc (v := nI (k + 1)) (lv' := [(7, .int (nI (k + 1))), (6, .int (cnQ N ρ x9 (k + 1))), (0, .ref (ad 0)), (1, .ref (av 0)), (2, .ref (av 1)), (3, .int (nI (i))), (4, .int (y9)), (5, .int (x9))]) hx hb dL_quenches_103 hl9 (k := 7) rfl (nI_add (k) 1) (by decide) rfl (fun sl9 hl9 => ?_)
                  refine lv_goto (tgt := 49) hx hb dL_quenches_106 (by decide) ?_
                  refine W.widen (show _ ≤ 0 + 10 * (k + 1) by omega) (show _ ≤ 0 + 140 * (k + 1) by omega) ?_
                  exact ih49 (k + 1) (by omega)  _ _ _ Mz9 (lv_sub hl9 [2, 3, 4, 5, 6, 7, 1, 0] rfl)
                ·
                  refine lv_iconst (v := 1) hx hb dL_quenches_96 (by decide) ?_
                  refine lv_goto (tgt := 101) hx hb dL_quenches_97 (by decide) ?_
                  refine zn_top (y := cnQ N ρ x9 (k + 1)) (show (1 : Int32) = cnQ N ρ x9 (k + 1) by rw [cnQ_s, if_neg c_9, if_neg c_10, if_neg c_11, if_pos c_12]) ?_
                  refine lv_istore (lv' := [(6, .int (cnQ N ρ x9 (k + 1))), (0, .ref (ad 0)), (1, .ref (av 0)), (2, .ref (av 1)), (3, .int (nI (i))), (4, .int (y9)), (5, .int (x9)), (7, .int (nI (k)))]) hx hb dL_quenches_101 hl9 (by decide) rfl (fun sl9 hl9 => ?_)
                  refine lv_iinc (v := nI (k + 1)) (lv' := [(7, .int (nI (k + 1))), (6, .int (cnQ N ρ x9 (k + 1))), (0, .ref (ad 0)), (1, .ref (av 0)), (2, .ref (av 1)), (3, .int (nI (i))), (4, .int (y9)), (5, .int (x9))]) hx hb dL_quenches_103 hl9 (k := 7) rfl (nI_add (k) 1) (by decide) rfl (fun sl9 hl9 => ?_)
                  refine lv_goto (tgt := 49) hx hb dL_quenches_106 (by decide) ?_
                  refine W.widen (show _ ≤ 0 + 10 * (k + 1) by omega) (show _ ≤ 0 + 140 * (k + 1) by omega) ?_
                  exact ih49 (k + 1) (by omega)  _ _ _ Mz9 (lv_sub hl9 [2, 3, 4, 5, 6, 7, 1, 0] rfl)
      refine W.widen (show _ ≤ 0 + 10 * 0 by omega) (show _ ≤ 0 + 140 * 0 by omega) ?_
      exact LP49_2 ((N 1) - 0) (0) (by omega)  _ _ _ Mz9 (lv_sub hl9 [3, 4, 5, 6, 7, 2, 1, 0] rfl)
  ·
    refine lv_iconst (v := 1) hx hb dL_quenches_12 (by decide) ?_
    refine lv_iload hx hb dL_quenches_13 (lv_at hl9 4 rfl) ?_
    refine lv_iconst (v := 2) hx hb dL_quenches_15 (by decide) ?_
    refine lv_ishr hx hb dL_quenches_16 ?_
    refine lv_aload_n hx hb dL_quenches_17 rfl (lv_at hl9 1 rfl) ?_
    refine lv_iconst (v := 1) hx hb dL_quenches_18 (by decide) ?_
    refine z_iald Z Mz9 0 (h0 := av 0) (n := 6) (f := ga) rfl (j := 1) (by decide) (by decide) dL_quenches_19 ?_
    refine zn_top (y := nI (N 1)) (hg1) ?_
    obtain ⟨q8, b8, z8⟩ := ln_low2 l (y9 >>> (2 &&& 31)) (N 1) (by omega)
    refine z_callSi (As := [.int (y9 >>> (2 &&& 31)), .int (nI (N 1))]) (rest := [.int 1, .int (nI (2 ^ i))]) Z.1 z8 (va_cwS 2 hts gL_quenches_L_low rfl rfl rfl (by decide +kernel) ⟨by decide, by decide⟩) rfl hl9.1 (Nat.le_of_ble_eq_true rfl) dL_quenches_20 ⟨by show _ ≤ 320; omega, by show _ ≤ 4480; omega⟩ rfl ?_
    refine lv_ishl hx hb dL_quenches_23 ?_
    refine zn_top (y := nI (2 ^ q8)) (one_sh q8 (by omega)) ?_
    refine lv_goto (tgt := 28) hx hb dL_quenches_24 (by decide) ?_
    refine lv_ior hx hb dL_quenches_28 ?_
    obtain ⟨x9, hxe⟩ : ∃ x9 : Int32, x9 = (nI (2 ^ i)) ||| (nI (2 ^ q8)) := ⟨_, rfl⟩
    have hxt := stK_of (set_tab2 (N 1) (by omega) i hi q8 (by omega))
    rw [← hxe] at hxt
    obtain ⟨hx8, hx0, hx1, hxi⟩ := hxt
    obtain ⟨nx, hnx, hx9⟩ := zI_of hx8
    refine zn_top (y := x9) hxe.symm ?_
    refine lv_istore (lv' := [(5, .int (x9)), (0, .ref (ad 0)), (1, .ref (av 0)), (2, .ref (av 1)), (3, .int (nI (i))), (4, .int (y9))]) hx hb dL_quenches_29 hl9 (by decide) rfl (fun sl9 hl9 => ?_)
    refine lv_aload_n hx hb dL_quenches_31 rfl (lv_at hl9 2 rfl) ?_
    refine lv_iconst (v := 3) hx hb dL_quenches_32 (by decide) ?_
    refine z_iald Z Mz9 0 (h0 := av 0) (n := 6) (f := ga) rfl (j := 3) (by decide) (by decide) dL_quenches_33 ?_
    refine zn_top (y := nI (N 3)) (hg3) ?_
    refine lv_bipush (v := 20) hx hb dL_quenches_34 (by decide) ?_
    refine zn_icmp_ge (a := N 3) (b := 20) (tgt := 43) (by omega) (by decide) hx hb dL_quenches_36 (by decide) (fun c_13 => ?_) (fun c_13 => ?_)
    ·
      refine lv_iconst (v := 0) hx hb dL_quenches_43 (by decide) ?_
      refine zn_top (y := cnQ N ρ x9 0) (show (0 : Int32) = cnQ N ρ x9 0 by rw [cnQ_0]; exact (if_neg (fun q => absurd ((nI_ltI (b := 20) (by omega) (by decide)).mp q) (by omega))).symm) ?_
      refine lv_istore (lv' := [(6, .int (cnQ N ρ x9 0)), (5, .int (x9)), (0, .ref (ad 0)), (1, .ref (av 0)), (2, .ref (av 1)), (3, .int (nI (i))), (4, .int (y9))]) hx hb dL_quenches_44 hl9 (by decide) rfl (fun sl9 hl9 => ?_)
      refine lv_iconst (v := 0) hx hb dL_quenches_46 (by decide) ?_
      refine lv_istore (lv' := [(7, .int 0), (6, .int (cnQ N ρ x9 0)), (5, .int (x9)), (0, .ref (ad 0)), (1, .ref (av 0)), (2, .ref (av 1)), (3, .int (nI (i))), (4, .int (y9))]) hx hb dL_quenches_47 hl9 (by decide) rfl (fun sl9 hl9 => ?_)
      have LP49_3 : ∀ (n49 k : Nat), k + n49 = N 1 → ∀ (Hp9 : Heap) (lc9 : List Loc) (sl9 : Array Slot), zM D A s.heap (lwR T av ga ma aa ca ta ++ iw J ad (hG ad T ea nof N mst bst ρ)) Hp9 lc9 → lv_has sl9 10 [(0, .ref (ad 0)), (1, .ref (av 0)), (2, .ref (av 1)), (3, .int (nI (i))), (4, .int (y9)), (5, .int (x9)), (6, .int (cnQ N ρ x9 k)), (7, .int (nI (k)))] → W p l e mR9 s m args below meth c Hp9 lc9 (0 + 10 * k) (0 + 140 * k) Q (F0 m 49 sl9 []) := by
        intro n49
        induction n49 with
        | zero =>
          intro k hk9 Hp9 lc9 sl9 Mz9 hl9
          obtain rfl : k = N 1 := by omega
          refine lv_iload hx hb dL_quenches_49 (lv_at hl9 7 rfl) ?_
          refine lv_aload_n hx hb dL_quenches_51 rfl (lv_at hl9 1 rfl) ?_
          refine lv_iconst (v := 1) hx hb dL_quenches_52 (by decide) ?_
          refine z_iald Z Mz9 0 (h0 := av 0) (n := 6) (f := ga) rfl (j := 1) (by decide) (by decide) dL_quenches_53 ?_
          refine zn_top (y := nI (N 1)) (hg1) ?_
          refine zn_icmp_ge (a := N 1) (b := N 1) (tgt := 109) (by omega) (by omega) hx hb dL_quenches_54 (by decide) (fun _ => ?_) (fun h => absurd h (by omega))
          refine lv_aload_n hx hb dL_quenches_109 rfl (lv_at hl9 0 rfl) ?_
          refine lv_iload hx hb dL_quenches_110 (lv_at hl9 5 rfl) ?_
          refine lv_iload hx hb dL_quenches_112 (lv_at hl9 4 rfl) ?_
          refine lv_bipush (v := 6) hx hb dL_quenches_114 (by decide) ?_
          refine lv_ishr hx hb dL_quenches_116 ?_
          refine lv_iconst (v := 2) hx hb dL_quenches_117 (by decide) ?_
          obtain ⟨q9, b9, z9⟩ := ln_low2 l (y9 >>> (6 &&& 31)) 2 (by decide)
          refine z_callSi (As := [.int (y9 >>> (6 &&& 31)), .int 2]) (rest := [.int (x9), .ref (ad 0)]) Z.1 z9 (va_cwS 2 hts gL_quenches_L_low rfl rfl rfl (by decide +kernel) ⟨by decide, by decide⟩) rfl hl9.1 (Nat.le_of_ble_eq_true rfl) dL_quenches_118 ⟨by show _ ≤ 320; omega, by show _ ≤ 4480; omega⟩ rfl ?_
          have hyo : nI q9 = 0 ∨ nI q9 = 1 := by rcases (show q9 = 0 ∨ q9 = 1 by omega) with h | h <;> rw [h] <;> first | exact Or.inl rfl | exact Or.inr rfl
          obtain ⟨hqa, hqb⟩ := hc_quench (l := l) (D := D) (T := T) (ea := ea) (mi := mi) (sa := sa) hfl hI hnx hx9 hx0 hx1 hyo
          by_cases qz : cnQ N ρ x9 (N 1) = 0
          ·
            refine z_callW (As := [.ref (ad 0), .int (x9), .int (nI (q9))]) (rest := []) (zX_k ea mi sa) hX Z Mz9 (hqa qz _) (vx_cwSW 3 hts gL_quenches_L_quench rfl rfl rfl (by decide +kernel) ⟨by decide, by decide⟩) rfl hl9.1 (Nat.le_of_ble_eq_true rfl) dL_quenches_121 ⟨by show _ ≤ 320; omega, by show _ ≤ 4480; omega⟩ rfl (fun u9 Hp9 lc9 Mz9 => ?_)
            refine lv_istore (lv' := [(7, .int (-1000003)), (0, .ref (ad 0)), (1, .ref (av 0)), (2, .ref (av 1)), (3, .int (nI (i))), (4, .int (y9)), (5, .int (x9)), (6, .int (cnQ N ρ x9 (N 1)))]) hx hb dL_quenches_124 hl9 (by decide) rfl (fun sl9 hl9 => ?_)
            refine lv_iload hx hb dL_quenches_126 (lv_at hl9 7 rfl) ?_
            refine lv_if_ne (tgt := 144) hx hb dL_quenches_128 (by decide) (fun h => absurd h (fun q => q qz)) (fun _ => ?_)
            refine lv_iload hx hb dL_quenches_131 (lv_at hl9 0 rfl) ?_
            refine lv_ldc (v := (-1000003)) hx hb Z.1.2.2.2.1 (hts (.constant RL 28 (-1000003)) (by decide +kernel)) dL_quenches_133 ?_
            refine lv_icmp_ne (tgt := 142) hx hb dL_quenches_135 (by decide) (fun h => absurd h (by decide)) (fun _ => ?_)
            refine lv_iconst (v := 1) hx hb dL_quenches_138 (by decide) ?_
            refine lv_goto (tgt := 143) hx hb dL_quenches_139 (by decide) ?_
            exact hret _ _ _ _ _ sl9 _ _ (⟨((J, ad, N, mst, bst, ρ), ga, ma, aa, ca, ta), ⟨(I_le (Nat.le_succ C) hI), hGr, rfl⟩⟩) Mz9 rfl (rfl) rfl (by show _ ≤ 320; omega) (by show _ ≤ 4480; omega) dL_quenches_143
          ·
            obtain ⟨h20, hw1, hI1⟩ := hqb qz
            obtain ⟨kk, hq1, e7, e8, e14⟩ := q_QN (y := nI q9) hI hi hxi
            obtain ⟨ρ1, hρ1⟩ : ∃ q, q = upR (qR x9 (nI q9) (nI (N 3)) bst ρ (N 1)) 0 (fun _ => nI (N 3 + 1)) := ⟨_, rfl⟩
            rw [← hρ1] at hw1 hI1 hq1 e7 e8 e14
            have hi9 : i < Nq N 1 := hi
            have hld9 : N 3 < Nq N 3 := Nat.lt_succ_self (N 3)
            refine z_callW (As := [.ref (ad 0), .int (x9), .int (nI (q9))]) (rest := []) (zX_k ea mi sa) hX Z Mz9 (hw1 _) (vx_cwSW 3 hts gL_quenches_L_quench rfl rfl rfl (by decide +kernel) ⟨by decide, by decide⟩) rfl hl9.1 (Nat.le_of_ble_eq_true rfl) dL_quenches_121 ⟨by show _ ≤ 320; omega, by show _ ≤ 4480; omega⟩ rfl (fun u9 Hp9 lc9 Mz9 => ?_)
            refine lv_istore (lv' := [(7, .int (nI (N 3))), (0, .ref (ad 0)), (1, .ref (av 0)), (2, .ref (av 1)), (3, .int (nI (i))), (4, .int (y9)), (5, .int (x9)), (6, .int (cnQ N ρ x9 (N 1)))]) hx hb dL_quenches_124 hl9 (by decide) rfl (fun sl9 hl9 => ?_)
            refine lv_iload hx hb dL_quenches_126 (lv_at hl9 7 rfl) ?_
            refine lv_if_ne (tgt := 144) hx hb dL_quenches_128 (by decide) (fun _ => ?_) (fun h => absurd h (qz))
            refine lv_aload_n hx hb dL_quenches_144 rfl (lv_at hl9 2 rfl) ?_
            refine lv_iconst (v := 3) hx hb dL_quenches_145 (by decide) ?_
            refine lv_dup2_11 hx hb dL_quenches_146 rfl rfl ?_
            refine z_iald Z Mz9 0 (h0 := av 0) (n := 6) (f := ga) rfl (j := 3) (by decide) (by decide) dL_quenches_147 ?_
            refine zn_top (y := nI (N 3)) (hg3) ?_
            refine lv_iconst (v := 1) hx hb dL_quenches_148 (by decide) ?_
            refine zn_iadd (a := N 3) (b := 1) hx hb dL_quenches_149 ?_
            refine z_iast Z Mz9 0 (h0 := av 0) (n := 6) (f := ga) rfl (j := 3) (x := nI ((N 3) + 1)) (by decide) (by decide) (ws' := lwR T av (upd ga 3 (nI ((N 3) + 1))) ma aa ca ta ++ iw J ad (hG ad T ea nof (Nq N) mst bst ρ1)) rfl dL_quenches_150 (fun Hp9 lc9 Mz9 => ?_)
            refine lv_aload_n hx hb dL_quenches_151 rfl (lv_at hl9 1 rfl) ?_
            refine lv_iload_n hx hb dL_quenches_152 rfl (lv_at hl9 4 rfl) ?_
            refine lv_iconst (v := 0) hx hb dL_quenches_153 (by decide) ?_
            refine z_callW (As := [.ref (ad 0), .int (nI (i)), .int 0]) (rest := []) (zX_k ea mi sa) hX Z Mz9 (hc_hard hI1 hi9 (j := 0) (by decide) _) (vx_cwSW 3 hts gL_quenches_L_hardness rfl rfl rfl (by decide +kernel) ⟨by decide, by decide⟩) rfl hl9.1 (Nat.le_of_ble_eq_true rfl) dL_quenches_154 ⟨by show _ ≤ 320; omega, by show _ ≤ 4480; omega⟩ rfl (fun u9 Hp9 lc9 Mz9 => ?_)
            refine zn_top (y := nI (hvq kk 100 0)) ((QN_hd h20 hq1 (show 0 < 8 by decide)).1) ?_
            refine lv_istore (lv' := [(8, .int (nI (hvq kk 100 0))), (7, .int (nI (N 3))), (0, .ref (ad 0)), (1, .ref (av 0)), (2, .ref (av 1)), (3, .int (nI (i))), (4, .int (y9)), (5, .int (x9)), (6, .int (cnQ N ρ x9 (N 1)))]) hx hb dL_quenches_157 hl9 (by decide) rfl (fun sl9 hl9 => ?_)
            refine lv_aload_n hx hb dL_quenches_159 rfl (lv_at hl9 2 rfl) ?_
            refine lv_iload_n hx hb dL_quenches_160 rfl (lv_at hl9 5 rfl) ?_
            refine lv_bipush (v := 100) hx hb dL_quenches_161 (by decide) ?_
            refine lv_iload hx hb dL_quenches_163 (lv_at hl9 6 rfl) ?_
            refine lv_bipush (v := 7) hx hb dL_quenches_165 (by decide) ?_
            refine lv_ishr hx hb dL_quenches_167 ?_
            refine lv_sipush (v := 601) hx hb dL_quenches_168 (by decide) ?_
            obtain ⟨q10, b10, z10⟩ := ln_low2 l (y9 >>> (7 &&& 31)) 601 (by decide)
            refine z_callSi (As := [.int (y9 >>> (7 &&& 31)), .int 601]) (rest := [.int 100, .int (nI (i)), .ref (ad 0)]) Z.1 z10 (va_cwS 2 hts gL_quenches_L_low rfl rfl rfl (by decide +kernel) ⟨by decide, by decide⟩) rfl hl9.1 (Nat.le_of_ble_eq_true rfl) dL_quenches_171 ⟨by show _ ≤ 320; omega, by show _ ≤ 4480; omega⟩ rfl ?_
            refine zn_iadd (a := 100) (b := q10) hx hb dL_quenches_174 ?_
            obtain ⟨hw2, hI2⟩ := hc_temper (l := l) (D := D) (T := T) (ea := ea) (mi := mi) (sa := sa) hI1 hi9 hld9 hq1 (w := 100 + q10) (by omega) (by omega)
            obtain ⟨n2, hn2⟩ : ∃ n2, n2 = max 100 (100 + q10) := ⟨_, rfl⟩
            have hq2 := QN_up hq1 (w := 100 + q10) (by omega) (by omega)
            rw [← hn2] at hw2 hI2 hq2
            obtain ⟨ρ2, hρ2⟩ : ∃ q, q = upB ρ1 i (upd (ρ1 (100 + 3 * i)) 16 (nI n2)) (ρ1 (101 + 3 * i)) (ρ1 (102 + 3 * i)) := ⟨_, rfl⟩
            rw [← hρ2] at hw2 hI2
            have f1 : ρ2 (100 + 3 * i) = upd (ρ1 (100 + 3 * i)) 16 (nI n2) := by rw [hρ2]; exact upB_b
            have f2 : ρ2 (102 + 3 * i) = ρ1 (102 + 3 * i) := by rw [hρ2]; exact upB_q
            rw [← f1, ← f2] at hq2
            have f14 : ρ2 (100 + 3 * i) 14 = nI (N 3) := hq2.1
            have f7 : ρ2 (100 + 3 * i) 7 = 20 := by rw [f1]; exact e7
            have f8 : ρ2 (100 + 3 * i) 8 = 20 := by rw [f1]; exact e8
            have hs1 := (QN_LH h20 hq2).2.2 0 (by decide)
            have hs2 : hvq kk n2 0 ≤ hvq kk 100 0 := by unfold hvq; omega
            have hs3 := (QN_hd h20 hq1 (show 0 < 8 by decide)).2
            have hn27 := hq2.2.2.1
            have hs4 := (QN_LH h20 hq2).2.1
            refine z_callW (As := [.ref (ad 0), .int (nI (i)), .int (nI (100 + q10))]) (rest := []) (zX_k ea mi sa) hX Z Mz9 (hw2 _) (vx_cwSW 3 hts gL_quenches_L_temper rfl rfl rfl (by decide +kernel) ⟨by decide, by decide⟩) rfl hl9.1 (Nat.le_of_ble_eq_true rfl) dL_quenches_175 ⟨by show _ ≤ 320; omega, by show _ ≤ 4480; omega⟩ rfl (fun u9 Hp9 lc9 Mz9 => ?_)
            refine lv_istore (lv' := [(9, .int (nI (mn8 (hvq kk n2) 7))), (8, .int (nI (hvq kk 100 0))), (7, .int (nI (N 3))), (0, .ref (ad 0)), (1, .ref (av 0)), (2, .ref (av 1)), (3, .int (nI (i))), (4, .int (y9)), (5, .int (x9)), (6, .int (cnQ N ρ x9 (N 1)))]) hx hb dL_quenches_178 hl9 (by decide) rfl (fun sl9 hl9 => ?_)
            refine lv_iload hx hb dL_quenches_180 (lv_at hl9 2 rfl) ?_
            refine lv_aload_n hx hb dL_quenches_182 rfl (lv_at hl9 4 rfl) ?_
            refine lv_iconst (v := 3) hx hb dL_quenches_183 (by decide) ?_
            refine z_iald Z Mz9 0 (h0 := av 0) (n := 6) (f := upd ga 3 (nI ((N 3) + 1))) rfl (j := 3) (by decide) (by decide) dL_quenches_184 ?_
            refine zn_top (y := nI (N 3 + 1)) (upd_same _ _ _) ?_
            refine lv_iconst (v := 1) hx hb dL_quenches_185 (by decide) ?_
            refine zn_isub (a := N 3 + 1) (b := 1) (by omega) hx hb dL_quenches_186 ?_
            refine zn_icmp_ne (a := N 3) (b := (N 3 + 1) - 1) (tgt := 284) (by omega) (by omega) hx hb dL_quenches_187 (by decide) (fun h => absurd h (fun q => q (by omega))) (fun _ => ?_)
            refine lv_aload_n hx hb dL_quenches_190 rfl (lv_at hl9 3 rfl) ?_
            refine lv_iload_n hx hb dL_quenches_191 rfl (lv_at hl9 6 rfl) ?_
            refine lv_bipush (v := 8) hx hb dL_quenches_192 (by decide) ?_
            refine z_callW (As := [.ref (ad 0), .int (nI (i)), .int 8]) (rest := []) (zX_k ea mi sa) hX Z Mz9 (hc_bIs8 hI2 hi9 _) (vx_cwSW 3 hts gL_quenches_L_billetIs rfl rfl rfl (by decide +kernel) ⟨by decide, by decide⟩) rfl hl9.1 (Nat.le_of_ble_eq_true rfl) dL_quenches_194 ⟨by show _ ≤ 320; omega, by show _ ≤ 4480; omega⟩ rfl (fun u9 Hp9 lc9 Mz9 => ?_)
            refine zn_top (y := nI (N 3)) (f14) ?_
            refine lv_iload hx hb dL_quenches_197 (lv_at hl9 2 rfl) ?_
            refine zn_icmp_ne (a := N 3) (b := N 3) (tgt := 284) (by omega) (by omega) hx hb dL_quenches_199 (by decide) (fun h => absurd h (fun q => q rfl)) (fun _ => ?_)
            refine lv_aload_n hx hb dL_quenches_202 rfl (lv_at hl9 3 rfl) ?_
            refine lv_iload_n hx hb dL_quenches_203 rfl (lv_at hl9 6 rfl) ?_
            refine lv_iconst (v := 0) hx hb dL_quenches_204 (by decide) ?_
            refine z_callW (As := [.ref (ad 0), .int (nI (i)), .int 0]) (rest := []) (zX_k ea mi sa) hX Z Mz9 (hc_bIs0 hI2 hi9 _) (vx_cwSW 3 hts gL_quenches_L_billetIs rfl rfl rfl (by decide +kernel) ⟨by decide, by decide⟩) rfl hl9.1 (Nat.le_of_ble_eq_true rfl) dL_quenches_205 ⟨by show _ ≤ 320; omega, by show _ ≤ 4480; omega⟩ rfl (fun u9 Hp9 lc9 Mz9 => ?_)
            refine zn_top (y := 20) (f7) ?_
            refine lv_bipush (v := 20) hx hb dL_quenches_208 (by decide) ?_
            refine lv_icmp_ne (tgt := 284) hx hb dL_quenches_210 (by decide) (fun h => absurd h (by decide)) (fun _ => ?_)
            refine lv_aload_n hx hb dL_quenches_213 rfl (lv_at hl9 3 rfl) ?_
            refine lv_iload_n hx hb dL_quenches_214 rfl (lv_at hl9 6 rfl) ?_
            refine lv_iconst (v := 1) hx hb dL_quenches_215 (by decide) ?_
            refine z_callW (As := [.ref (ad 0), .int (nI (i)), .int 1]) (rest := []) (zX_k ea mi sa) hX Z Mz9 (hc_bIs1 hI2 hi9 _) (vx_cwSW 3 hts gL_quenches_L_billetIs rfl rfl rfl (by decide +kernel) ⟨by decide, by decide⟩) rfl hl9.1 (Nat.le_of_ble_eq_true rfl) dL_quenches_216 ⟨by show _ ≤ 320; omega, by show _ ≤ 4480; omega⟩ rfl (fun u9 Hp9 lc9 Mz9 => ?_)
            refine zn_top (y := 20) (f8) ?_
            refine lv_bipush (v := 20) hx hb dL_quenches_219 (by decide) ?_
            refine lv_icmp_ne (tgt := 284) hx hb dL_quenches_221 (by decide) (fun h => absurd h (by decide)) (fun _ => ?_)
            refine lv_iload hx hb dL_quenches_224 (lv_at hl9 0 rfl) ?_
            refine zn_if_lt (a := mn8 (hvq kk n2) 7) (tgt := 284) (by omega) hx hb dL_quenches_226 (by decide) (fun h => absurd h (fun q => q)) (fun _ => ?_)
            refine lv_iload hx hb dL_quenches_229 (lv_at hl9 0 rfl) ?_
            refine lv_iload hx hb dL_quenches_231 (lv_at hl9 1 rfl) ?_
            refine zn_icmp_gt (a := mn8 (hvq kk n2) 7) (b := hvq kk 100 0) (tgt := 284) (by omega) (by omega) hx hb dL_quenches_233 (by decide) (fun h => absurd h (by omega)) (fun _ => ?_)
            refine lv_aload_n hx hb dL_quenches_236 rfl (lv_at hl9 3 rfl) ?_
            refine lv_iload_n hx hb dL_quenches_237 rfl (lv_at hl9 6 rfl) ?_
            refine lv_bipush (v := 100) hx hb dL_quenches_238 (by decide) ?_
            obtain ⟨hw3, hI3⟩ := hc_temper (l := l) (D := D) (T := T) (ea := ea) (mi := mi) (sa := sa) hI2 hi9 hld9 hq2 (w := 100) (by decide) (by decide)
            have hq3 := QN_up hq2 (w := 100) (by decide) (by decide)
            rw [show max n2 100 = n2 by omega] at hw3 hI3 hq3
            obtain ⟨ρ3, hρ3⟩ : ∃ q, q = upB ρ2 i (upd (ρ2 (100 + 3 * i)) 16 (nI n2)) (ρ2 (101 + 3 * i)) (ρ2 (102 + 3 * i)) := ⟨_, rfl⟩
            rw [← hρ3] at hw3 hI3
            have g1 : ρ3 (100 + 3 * i) = upd (ρ2 (100 + 3 * i)) 16 (nI n2) := by rw [hρ3]; exact upB_b
            have g2 : ρ3 (102 + 3 * i) = ρ2 (102 + 3 * i) := by rw [hρ3]; exact upB_q
            rw [← g1, ← g2] at hq3
            refine z_callW (As := [.ref (ad 0), .int (nI (i)), .int 100]) (rest := []) (zX_k ea mi sa) hX Z Mz9 (hw3 _) (vx_cwSW 3 hts gL_quenches_L_temper rfl rfl rfl (by decide +kernel) ⟨by decide, by decide⟩) rfl hl9.1 (Nat.le_of_ble_eq_true rfl) dL_quenches_240 ⟨by show _ ≤ 320; omega, by show _ ≤ 4480; omega⟩ rfl (fun u9 Hp9 lc9 Mz9 => ?_)
            refine lv_iload hx hb dL_quenches_243 (lv_at hl9 0 rfl) ?_
            refine zn_icmp_ne (a := mn8 (hvq kk n2) 7) (b := mn8 (hvq kk n2) 7) (tgt := 284) (by omega) (by omega) hx hb dL_quenches_245 (by decide) (fun h => absurd h (fun q => q rfl)) (fun _ => ?_)
            refine lv_iload hx hb dL_quenches_248 (lv_at hl9 7 rfl) ?_
            refine lv_bipush (v := 16) hx hb dL_quenches_250 (by decide) ?_
            refine lv_ishr hx hb dL_quenches_252 ?_
            refine lv_iconst (v := 2) hx hb dL_quenches_253 (by decide) ?_
            obtain ⟨q11, b11, z11⟩ := ln_low2 l (y9 >>> (16 &&& 31)) 2 (by decide)
            refine z_callSi (As := [.int (y9 >>> (16 &&& 31)), .int 2]) (rest := []) Z.1 z11 (va_cwS 2 hts gL_quenches_L_low rfl rfl rfl (by decide +kernel) ⟨by decide, by decide⟩) rfl hl9.1 (Nat.le_of_ble_eq_true rfl) dL_quenches_254 ⟨by show _ ≤ 320; omega, by show _ ≤ 4480; omega⟩ rfl ?_
            refine zn_if_eq (a := q11) (tgt := 280) (by omega) hx hb dL_quenches_257 (by decide) (fun c_14 => ?_) (fun c_14 => ?_)
            ·
              refine lv_iconst (v := 1) hx hb dL_quenches_280 (by decide) ?_
              refine lv_goto (tgt := 285) hx hb dL_quenches_281 (by decide) ?_
              exact hret _ _ _ _ _ sl9 _ _ (⟨((J, ad, Nq N, mst, bst, ρ3), upd ga 3 (nI ((N 3) + 1)), ma, aa, ca, ta), ⟨(I_le (Nat.le_succ C) hI3), (GR_q hGr), rfl⟩⟩) Mz9 rfl (rfl) rfl (by show _ ≤ 320; omega) (by show _ ≤ 4480; omega) dL_quenches_285
            ·
              refine lv_aload_n hx hb dL_quenches_260 rfl (lv_at hl9 3 rfl) ?_
              refine lv_iload_n hx hb dL_quenches_261 rfl (lv_at hl9 6 rfl) ?_
              obtain ⟨ρ4, hw4, e17, hI4⟩ := hc_test (l := l) (D := D) (T := T) (ea := ea) (mi := mi) (sa := sa) hI3 hi9 hld9 hq3
              refine z_callW (As := [.ref (ad 0), .int (nI (i))]) (rest := []) (zX_k ea mi sa) hX Z Mz9 (hw4 _) (vx_cwSW 2 hts gL_quenches_L_test rfl rfl rfl (by decide +kernel) ⟨by decide, by decide⟩) rfl hl9.1 (Nat.le_of_ble_eq_true rfl) dL_quenches_262 ⟨by show _ ≤ 320; omega, by show _ ≤ 4480; omega⟩ rfl (fun u9 Hp9 lc9 Mz9 => ?_)
              refine lv_iload hx hb dL_quenches_265 (lv_at hl9 0 rfl) ?_
              refine zn_icmp_ne (a := mn8 (hvq kk n2) 7) (b := mn8 (hvq kk n2) 7) (tgt := 284) (by omega) (by omega) hx hb dL_quenches_267 (by decide) (fun h => absurd h (fun q => q rfl)) (fun _ => ?_)
              refine lv_aload_n hx hb dL_quenches_270 rfl (lv_at hl9 3 rfl) ?_
              refine lv_iload_n hx hb dL_quenches_271 rfl (lv_at hl9 6 rfl) ?_
              refine lv_iconst (v := 0) hx hb dL_quenches_272 (by decide) ?_
              obtain ⟨pk, hpk, hw5⟩ := hc_paper (l := l) (D := D) (T := T) (ea := ea) (mi := mi) (sa := sa) hCb hI4 hi9 (n := 0) (by decide)
              refine z_callW (As := [.ref (ad 0), .int (nI (i)), .int 0]) (rest := []) (zX_k ea mi sa) hX Z Mz9 (hw5 _) (vx_cwSW 3 hts gL_quenches_L_paper rfl rfl rfl (by decide +kernel) ⟨by decide, by decide⟩) rfl hl9.1 (Nat.le_of_ble_eq_true rfl) dL_quenches_273 ⟨by show _ ≤ 320; omega, by show _ ≤ 4480; omega⟩ rfl (fun u9 Hp9 lc9 Mz9 => ?_)
              refine zn_top (y := (-1)) (hpk.2.2 e17) ?_
              refine lv_iconst (v := (-1)) hx hb dL_quenches_276 (by decide) ?_
              refine lv_icmp_ne (tgt := 284) hx hb dL_quenches_277 (by decide) (fun h => absurd h (by decide)) (fun _ => ?_)
              refine lv_iconst (v := 1) hx hb dL_quenches_280 (by decide) ?_
              refine lv_goto (tgt := 285) hx hb dL_quenches_281 (by decide) ?_
              exact hret _ _ _ _ _ sl9 _ _ (⟨((J, ad, Nq N, mst, bst, ρ4), upd ga 3 (nI ((N 3) + 1)), ma, aa, ca, ta), ⟨(I_le (Nat.le_succ C) hI4), (GR_q hGr), rfl⟩⟩) Mz9 rfl (rfl) rfl (by show _ ≤ 320; omega) (by show _ ≤ 4480; omega) dL_quenches_285
        | succ n49 ih49 =>
          intro k hk9 Hp9 lc9 sl9 Mz9 hl9
          refine lv_iload hx hb dL_quenches_49 (lv_at hl9 7 rfl) ?_
          refine lv_aload_n hx hb dL_quenches_51 rfl (lv_at hl9 1 rfl) ?_
          refine lv_iconst (v := 1) hx hb dL_quenches_52 (by decide) ?_
          refine z_iald Z Mz9 0 (h0 := av 0) (n := 6) (f := ga) rfl (j := 1) (by decide) (by decide) dL_quenches_53 ?_
          refine zn_top (y := nI (N 1)) (hg1) ?_
          refine zn_icmp_ge (a := k) (b := N 1) (tgt := 109) (by omega) (by omega) hx hb dL_quenches_54 (by decide) (fun h => absurd h (by omega)) (fun _ => ?_)
          refine lv_iload hx hb dL_quenches_57 (lv_at hl9 6 rfl) ?_
          refine lv_if_eq (tgt := 100) hx hb dL_quenches_59 (by decide) (fun c_15 => ?_) (fun c_15 => ?_)
          ·
            refine lv_iconst (v := 0) hx hb dL_quenches_100 (by decide) ?_
            refine zn_top (y := cnQ N ρ x9 (k + 1)) (show (0 : Int32) = cnQ N ρ x9 (k + 1) by rw [cnQ_s, if_pos c_15]) ?_
            refine lv_istore (lv' := [(6, .int (cnQ N ρ x9 (k + 1))), (0, .ref (ad 0)), (1, .ref (av 0)), (2, .ref (av 1)), (3, .int (nI (i))), (4, .int (y9)), (5, .int (x9)), (7, .int (nI (k)))]) hx hb dL_quenches_101 hl9 (by decide) rfl (fun sl9 hl9 => ?_)
            refine lv_iinc (v := nI (k + 1)) (lv' := [(7, .int (nI (k + 1))), (6, .int (cnQ N ρ x9 (k + 1))), (0, .ref (ad 0)), (1, .ref (av 0)), (2, .ref (av 1)), (3, .int (nI (i))), (4, .int (y9)), (5, .int (x9))]) hx hb dL_quenches_103 hl9 (k := 7) rfl (nI_add (k) 1) (by decide) rfl (fun sl9 hl9 => ?_)
            refine lv_goto (tgt := 49) hx hb dL_quenches_106 (by decide) ?_
            refine W.widen (show _ ≤ 0 + 10 * (k + 1) by omega) (show _ ≤ 0 + 140 * (k + 1) by omega) ?_
            exact ih49 (k + 1) (by omega)  _ _ _ Mz9 (lv_sub hl9 [2, 3, 4, 5, 6, 7, 1, 0] rfl)
          ·
            refine lv_iload hx hb dL_quenches_62 (lv_at hl9 5 rfl) ?_
            refine lv_iload hx hb dL_quenches_64 (lv_at hl9 7 rfl) ?_
            refine lv_ishr hx hb dL_quenches_66 ?_
            refine lv_iconst (v := 1) hx hb dL_quenches_67 (by decide) ?_
            refine lv_iand hx hb dL_quenches_68 ?_
            refine lv_if_eq (tgt := 96) hx hb dL_quenches_69 (by decide) (fun c_16 => ?_) (fun c_16 => ?_)
            ·
              refine lv_iconst (v := 1) hx hb dL_quenches_96 (by decide) ?_
              refine lv_goto (tgt := 101) hx hb dL_quenches_97 (by decide) ?_
              refine zn_top (y := cnQ N ρ x9 (k + 1)) (show (1 : Int32) = cnQ N ρ x9 (k + 1) by rw [cnQ_s, if_neg c_15, if_pos c_16]) ?_
              refine lv_istore (lv' := [(6, .int (cnQ N ρ x9 (k + 1))), (0, .ref (ad 0)), (1, .ref (av 0)), (2, .ref (av 1)), (3, .int (nI (i))), (4, .int (y9)), (5, .int (x9)), (7, .int (nI (k)))]) hx hb dL_quenches_101 hl9 (by decide) rfl (fun sl9 hl9 => ?_)
              refine lv_iinc (v := nI (k + 1)) (lv' := [(7, .int (nI (k + 1))), (6, .int (cnQ N ρ x9 (k + 1))), (0, .ref (ad 0)), (1, .ref (av 0)), (2, .ref (av 1)), (3, .int (nI (i))), (4, .int (y9)), (5, .int (x9))]) hx hb dL_quenches_103 hl9 (k := 7) rfl (nI_add (k) 1) (by decide) rfl (fun sl9 hl9 => ?_)
              refine lv_goto (tgt := 49) hx hb dL_quenches_106 (by decide) ?_
              refine W.widen (show _ ≤ 0 + 10 * (k + 1) by omega) (show _ ≤ 0 + 140 * (k + 1) by omega) ?_
              exact ih49 (k + 1) (by omega)  _ _ _ Mz9 (lv_sub hl9 [2, 3, 4, 5, 6, 7, 1, 0] rfl)
            ·
              refine lv_aload_n hx hb dL_quenches_72 rfl (lv_at hl9 0 rfl) ?_
              refine lv_iload hx hb dL_quenches_73 (lv_at hl9 7 rfl) ?_
              refine lv_iconst (v := 1) hx hb dL_quenches_75 (by decide) ?_
              refine z_callW (As := [.ref (ad 0), .int (nI (k)), .int 1]) (rest := []) (zX_k ea mi sa) hX Z Mz9 (hc_bIs1 hI (show k < N 1 by omega) _) (vx_cwSW 3 hts gL_quenches_L_billetIs rfl rfl rfl (by decide +kernel) ⟨by decide, by decide⟩) rfl hl9.1 (Nat.le_of_ble_eq_true rfl) dL_quenches_76 ⟨by show _ ≤ 320; omega, by show _ ≤ 4480; omega⟩ rfl (fun u9 Hp9 lc9 Mz9 => ?_)
              refine lv_sipush (v := 800) hx hb dL_quenches_79 (by decide) ?_
              refine lv_icmp_lt (tgt := 100) hx hb dL_quenches_82 (by decide) (fun c_17 => ?_) (fun c_17 => ?_)
              ·
                refine lv_iconst (v := 0) hx hb dL_quenches_100 (by decide) ?_
                refine zn_top (y := cnQ N ρ x9 (k + 1)) (show (0 : Int32) = cnQ N ρ x9 (k + 1) by rw [cnQ_s, if_neg c_15, if_neg c_16, if_pos c_17]) ?_
                refine lv_istore (lv' := [(6, .int (cnQ N ρ x9 (k + 1))), (0, .ref (ad 0)), (1, .ref (av 0)), (2, .ref (av 1)), (3, .int (nI (i))), (4, .int (y9)), (5, .int (x9)), (7, .int (nI (k)))]) hx hb dL_quenches_101 hl9 (by decide) rfl (fun sl9 hl9 => ?_)
                refine lv_iinc (v := nI (k + 1)) (lv' := [(7, .int (nI (k + 1))), (6, .int (cnQ N ρ x9 (k + 1))), (0, .ref (ad 0)), (1, .ref (av 0)), (2, .ref (av 1)), (3, .int (nI (i))), (4, .int (y9)), (5, .int (x9))]) hx hb dL_quenches_103 hl9 (k := 7) rfl (nI_add (k) 1) (by decide) rfl (fun sl9 hl9 => ?_)
                refine lv_goto (tgt := 49) hx hb dL_quenches_106 (by decide) ?_
                refine W.widen (show _ ≤ 0 + 10 * (k + 1) by omega) (show _ ≤ 0 + 140 * (k + 1) by omega) ?_
                exact ih49 (k + 1) (by omega)  _ _ _ Mz9 (lv_sub hl9 [2, 3, 4, 5, 6, 7, 1, 0] rfl)
              ·
                refine lv_aload_n hx hb dL_quenches_85 rfl (lv_at hl9 0 rfl) ?_
                refine lv_iload hx hb dL_quenches_86 (lv_at hl9 7 rfl) ?_
                refine lv_bipush (v := 6) hx hb dL_quenches_88 (by decide) ?_
                refine z_callW (As := [.ref (ad 0), .int (nI (k)), .int 6]) (rest := []) (zX_k ea mi sa) hX Z Mz9 (hc_bIs6 hI (show k < N 1 by omega) _) (vx_cwSW 3 hts gL_quenches_L_billetIs rfl rfl rfl (by decide +kernel) ⟨by decide, by decide⟩) rfl hl9.1 (Nat.le_of_ble_eq_true rfl) dL_quenches_90 ⟨by show _ ≤ 320; omega, by show _ ≤ 4480; omega⟩ rfl (fun u9 Hp9 lc9 Mz9 => ?_)
                refine zn_top (y := ρ (100 + 3 * k) 12) (cr01 (I_B hI (show k < N 1 by omega)).2.2.2.2.2.2.2.1) ?_
                refine lv_if_ne (tgt := 100) hx hb dL_quenches_93 (by decide) (fun c_18 => ?_) (fun c_18 => ?_)
                ·
                  refine lv_iconst (v := 0) hx hb dL_quenches_100 (by decide) ?_
                  refine zn_top (y := cnQ N ρ x9 (k + 1)) (show (0 : Int32) = cnQ N ρ x9 (k + 1) by rw [cnQ_s, if_neg c_15, if_neg c_16, if_neg c_17, if_neg c_18]) ?_
                  refine lv_istore (lv' := [(6, .int (cnQ N ρ x9 (k + 1))), (0, .ref (ad 0)), (1, .ref (av 0)), (2, .ref (av 1)), (3, .int (nI (i))), (4, .int (y9)), (5, .int (x9)), (7, .int (nI (k)))]) hx hb dL_quenches_101 hl9 (by decide) rfl (fun sl9 hl9 => ?_)
                  refine lv_iinc (v := nI (k + 1)) (lv' := [(7, .int (nI (k + 1))), (6, .int (cnQ N ρ x9 (k + 1))), (0, .ref (ad 0)), (1, .ref (av 0)), (2, .ref (av 1)), (3, .int (nI (i))), (4, .int (y9)), (5, .int (x9))]) hx hb dL_quenches_103 hl9 (k := 7) rfl (nI_add (k) 1) (by decide) rfl (fun sl9 hl9 => ?_)
                  refine lv_goto (tgt := 49) hx hb dL_quenches_106 (by decide) ?_
                  refine W.widen (show _ ≤ 0 + 10 * (k + 1) by omega) (show _ ≤ 0 + 140 * (k + 1) by omega) ?_
                  exact ih49 (k + 1) (by omega)  _ _ _ Mz9 (lv_sub hl9 [2, 3, 4, 5, 6, 7, 1, 0] rfl)
                ·
                  refine lv_iconst (v := 1) hx hb dL_quenches_96 (by decide) ?_
                  refine lv_goto (tgt := 101) hx hb dL_quenches_97 (by decide) ?_
                  refine zn_top (y := cnQ N ρ x9 (k + 1)) (show (1 : Int32) = cnQ N ρ x9 (k + 1) by rw [cnQ_s, if_neg c_15, if_neg c_16, if_neg c_17, if_pos c_18]) ?_
                  refine lv_istore (lv' := [(6, .int (cnQ N ρ x9 (k + 1))), (0, .ref (ad 0)), (1, .ref (av 0)), (2, .ref (av 1)), (3, .int (nI (i))), (4, .int (y9)), (5, .int (x9)), (7, .int (nI (k)))]) hx hb dL_quenches_101 hl9 (by decide) rfl (fun sl9 hl9 => ?_)
                  refine lv_iinc (v := nI (k + 1)) (lv' := [(7, .int (nI (k + 1))), (6, .int (cnQ N ρ x9 (k + 1))), (0, .ref (ad 0)), (1, .ref (av 0)), (2, .ref (av 1)), (3, .int (nI (i))), (4, .int (y9)), (5, .int (x9))]) hx hb dL_quenches_103 hl9 (k := 7) rfl (nI_add (k) 1) (by decide) rfl (fun sl9 hl9 => ?_)
                  refine lv_goto (tgt := 49) hx hb dL_quenches_106 (by decide) ?_
                  refine W.widen (show _ ≤ 0 + 10 * (k + 1) by omega) (show _ ≤ 0 + 140 * (k + 1) by omega) ?_
                  exact ih49 (k + 1) (by omega)  _ _ _ Mz9 (lv_sub hl9 [2, 3, 4, 5, 6, 7, 1, 0] rfl)
      refine W.widen (show _ ≤ 0 + 10 * 0 by omega) (show _ ≤ 0 + 140 * 0 by omega) ?_
      exact LP49_3 ((N 1) - 0) (0) (by omega)  _ _ _ Mz9 (lv_sub hl9 [3, 4, 5, 6, 7, 2, 1, 0] rfl)
    ·
      refine lv_iconst (v := 1) hx hb dL_quenches_39 (by decide) ?_
      refine lv_goto (tgt := 44) hx hb dL_quenches_40 (by decide) ?_
      refine zn_top (y := cnQ N ρ x9 0) (show (1 : Int32) = cnQ N ρ x9 0 by rw [cnQ_0]; exact (if_pos ((nI_ltI (b := 20) (by omega) (by decide)).mpr (by omega))).symm) ?_
      refine lv_istore (lv' := [(6, .int (cnQ N ρ x9 0)), (5, .int (x9)), (0, .ref (ad 0)), (1, .ref (av 0)), (2, .ref (av 1)), (3, .int (nI (i))), (4, .int (y9))]) hx hb dL_quenches_44 hl9 (by decide) rfl (fun sl9 hl9 => ?_)
      refine lv_iconst (v := 0) hx hb dL_quenches_46 (by decide) ?_
      refine lv_istore (lv' := [(7, .int 0), (6, .int (cnQ N ρ x9 0)), (5, .int (x9)), (0, .ref (ad 0)), (1, .ref (av 0)), (2, .ref (av 1)), (3, .int (nI (i))), (4, .int (y9))]) hx hb dL_quenches_47 hl9 (by decide) rfl (fun sl9 hl9 => ?_)
      have LP49_4 : ∀ (n49 k : Nat), k + n49 = N 1 → ∀ (Hp9 : Heap) (lc9 : List Loc) (sl9 : Array Slot), zM D A s.heap (lwR T av ga ma aa ca ta ++ iw J ad (hG ad T ea nof N mst bst ρ)) Hp9 lc9 → lv_has sl9 10 [(0, .ref (ad 0)), (1, .ref (av 0)), (2, .ref (av 1)), (3, .int (nI (i))), (4, .int (y9)), (5, .int (x9)), (6, .int (cnQ N ρ x9 k)), (7, .int (nI (k)))] → W p l e mR9 s m args below meth c Hp9 lc9 (0 + 10 * k) (0 + 140 * k) Q (F0 m 49 sl9 []) := by
        intro n49
        induction n49 with
        | zero =>
          intro k hk9 Hp9 lc9 sl9 Mz9 hl9
          obtain rfl : k = N 1 := by omega
          refine lv_iload hx hb dL_quenches_49 (lv_at hl9 7 rfl) ?_
          refine lv_aload_n hx hb dL_quenches_51 rfl (lv_at hl9 1 rfl) ?_
          refine lv_iconst (v := 1) hx hb dL_quenches_52 (by decide) ?_
          refine z_iald Z Mz9 0 (h0 := av 0) (n := 6) (f := ga) rfl (j := 1) (by decide) (by decide) dL_quenches_53 ?_
          refine zn_top (y := nI (N 1)) (hg1) ?_
          refine zn_icmp_ge (a := N 1) (b := N 1) (tgt := 109) (by omega) (by omega) hx hb dL_quenches_54 (by decide) (fun _ => ?_) (fun h => absurd h (by omega))
          refine lv_aload_n hx hb dL_quenches_109 rfl (lv_at hl9 0 rfl) ?_
          refine lv_iload hx hb dL_quenches_110 (lv_at hl9 5 rfl) ?_
          refine lv_iload hx hb dL_quenches_112 (lv_at hl9 4 rfl) ?_
          refine lv_bipush (v := 6) hx hb dL_quenches_114 (by decide) ?_
          refine lv_ishr hx hb dL_quenches_116 ?_
          refine lv_iconst (v := 2) hx hb dL_quenches_117 (by decide) ?_
          obtain ⟨q12, b12, z12⟩ := ln_low2 l (y9 >>> (6 &&& 31)) 2 (by decide)
          refine z_callSi (As := [.int (y9 >>> (6 &&& 31)), .int 2]) (rest := [.int (x9), .ref (ad 0)]) Z.1 z12 (va_cwS 2 hts gL_quenches_L_low rfl rfl rfl (by decide +kernel) ⟨by decide, by decide⟩) rfl hl9.1 (Nat.le_of_ble_eq_true rfl) dL_quenches_118 ⟨by show _ ≤ 320; omega, by show _ ≤ 4480; omega⟩ rfl ?_
          have hyo : nI q12 = 0 ∨ nI q12 = 1 := by rcases (show q12 = 0 ∨ q12 = 1 by omega) with h | h <;> rw [h] <;> first | exact Or.inl rfl | exact Or.inr rfl
          obtain ⟨hqa, hqb⟩ := hc_quench (l := l) (D := D) (T := T) (ea := ea) (mi := mi) (sa := sa) hfl hI hnx hx9 hx0 hx1 hyo
          by_cases qz : cnQ N ρ x9 (N 1) = 0
          ·
            refine z_callW (As := [.ref (ad 0), .int (x9), .int (nI (q12))]) (rest := []) (zX_k ea mi sa) hX Z Mz9 (hqa qz _) (vx_cwSW 3 hts gL_quenches_L_quench rfl rfl rfl (by decide +kernel) ⟨by decide, by decide⟩) rfl hl9.1 (Nat.le_of_ble_eq_true rfl) dL_quenches_121 ⟨by show _ ≤ 320; omega, by show _ ≤ 4480; omega⟩ rfl (fun u9 Hp9 lc9 Mz9 => ?_)
            refine lv_istore (lv' := [(7, .int (-1000003)), (0, .ref (ad 0)), (1, .ref (av 0)), (2, .ref (av 1)), (3, .int (nI (i))), (4, .int (y9)), (5, .int (x9)), (6, .int (cnQ N ρ x9 (N 1)))]) hx hb dL_quenches_124 hl9 (by decide) rfl (fun sl9 hl9 => ?_)
            refine lv_iload hx hb dL_quenches_126 (lv_at hl9 7 rfl) ?_
            refine lv_if_ne (tgt := 144) hx hb dL_quenches_128 (by decide) (fun h => absurd h (fun q => q qz)) (fun _ => ?_)
            refine lv_iload hx hb dL_quenches_131 (lv_at hl9 0 rfl) ?_
            refine lv_ldc (v := (-1000003)) hx hb Z.1.2.2.2.1 (hts (.constant RL 28 (-1000003)) (by decide +kernel)) dL_quenches_133 ?_
            refine lv_icmp_ne (tgt := 142) hx hb dL_quenches_135 (by decide) (fun h => absurd h (by decide)) (fun _ => ?_)
            refine lv_iconst (v := 1) hx hb dL_quenches_138 (by decide) ?_
            refine lv_goto (tgt := 143) hx hb dL_quenches_139 (by decide) ?_
            exact hret _ _ _ _ _ sl9 _ _ (⟨((J, ad, N, mst, bst, ρ), ga, ma, aa, ca, ta), ⟨(I_le (Nat.le_succ C) hI), hGr, rfl⟩⟩) Mz9 rfl (rfl) rfl (by show _ ≤ 320; omega) (by show _ ≤ 4480; omega) dL_quenches_143
          ·
            obtain ⟨h20, hw1, hI1⟩ := hqb qz
            obtain ⟨kk, hq1, e7, e8, e14⟩ := q_QN (y := nI q12) hI hi hxi
            obtain ⟨ρ1, hρ1⟩ : ∃ q, q = upR (qR x9 (nI q12) (nI (N 3)) bst ρ (N 1)) 0 (fun _ => nI (N 3 + 1)) := ⟨_, rfl⟩
            rw [← hρ1] at hw1 hI1 hq1 e7 e8 e14
            have hi9 : i < Nq N 1 := hi
            have hld9 : N 3 < Nq N 3 := Nat.lt_succ_self (N 3)
            refine z_callW (As := [.ref (ad 0), .int (x9), .int (nI (q12))]) (rest := []) (zX_k ea mi sa) hX Z Mz9 (hw1 _) (vx_cwSW 3 hts gL_quenches_L_quench rfl rfl rfl (by decide +kernel) ⟨by decide, by decide⟩) rfl hl9.1 (Nat.le_of_ble_eq_true rfl) dL_quenches_121 ⟨by show _ ≤ 320; omega, by show _ ≤ 4480; omega⟩ rfl (fun u9 Hp9 lc9 Mz9 => ?_)
            refine lv_istore (lv' := [(7, .int (nI (N 3))), (0, .ref (ad 0)), (1, .ref (av 0)), (2, .ref (av 1)), (3, .int (nI (i))), (4, .int (y9)), (5, .int (x9)), (6, .int (cnQ N ρ x9 (N 1)))]) hx hb dL_quenches_124 hl9 (by decide) rfl (fun sl9 hl9 => ?_)
            refine lv_iload hx hb dL_quenches_126 (lv_at hl9 7 rfl) ?_
            refine lv_if_ne (tgt := 144) hx hb dL_quenches_128 (by decide) (fun _ => ?_) (fun h => absurd h (qz))
            refine lv_aload_n hx hb dL_quenches_144 rfl (lv_at hl9 2 rfl) ?_
            refine lv_iconst (v := 3) hx hb dL_quenches_145 (by decide) ?_
            refine lv_dup2_11 hx hb dL_quenches_146 rfl rfl ?_
            refine z_iald Z Mz9 0 (h0 := av 0) (n := 6) (f := ga) rfl (j := 3) (by decide) (by decide) dL_quenches_147 ?_
            refine zn_top (y := nI (N 3)) (hg3) ?_
            refine lv_iconst (v := 1) hx hb dL_quenches_148 (by decide) ?_
            refine zn_iadd (a := N 3) (b := 1) hx hb dL_quenches_149 ?_
            refine z_iast Z Mz9 0 (h0 := av 0) (n := 6) (f := ga) rfl (j := 3) (x := nI ((N 3) + 1)) (by decide) (by decide) (ws' := lwR T av (upd ga 3 (nI ((N 3) + 1))) ma aa ca ta ++ iw J ad (hG ad T ea nof (Nq N) mst bst ρ1)) rfl dL_quenches_150 (fun Hp9 lc9 Mz9 => ?_)
            refine lv_aload_n hx hb dL_quenches_151 rfl (lv_at hl9 1 rfl) ?_
            refine lv_iload_n hx hb dL_quenches_152 rfl (lv_at hl9 4 rfl) ?_
            refine lv_iconst (v := 0) hx hb dL_quenches_153 (by decide) ?_
            refine z_callW (As := [.ref (ad 0), .int (nI (i)), .int 0]) (rest := []) (zX_k ea mi sa) hX Z Mz9 (hc_hard hI1 hi9 (j := 0) (by decide) _) (vx_cwSW 3 hts gL_quenches_L_hardness rfl rfl rfl (by decide +kernel) ⟨by decide, by decide⟩) rfl hl9.1 (Nat.le_of_ble_eq_true rfl) dL_quenches_154 ⟨by show _ ≤ 320; omega, by show _ ≤ 4480; omega⟩ rfl (fun u9 Hp9 lc9 Mz9 => ?_)
            refine zn_top (y := nI (hvq kk 100 0)) ((QN_hd h20 hq1 (show 0 < 8 by decide)).1) ?_
            refine lv_istore (lv' := [(8, .int (nI (hvq kk 100 0))), (7, .int (nI (N 3))), (0, .ref (ad 0)), (1, .ref (av 0)), (2, .ref (av 1)), (3, .int (nI (i))), (4, .int (y9)), (5, .int (x9)), (6, .int (cnQ N ρ x9 (N 1)))]) hx hb dL_quenches_157 hl9 (by decide) rfl (fun sl9 hl9 => ?_)
            refine lv_aload_n hx hb dL_quenches_159 rfl (lv_at hl9 2 rfl) ?_
            refine lv_iload_n hx hb dL_quenches_160 rfl (lv_at hl9 5 rfl) ?_
            refine lv_bipush (v := 100) hx hb dL_quenches_161 (by decide) ?_
            refine lv_iload hx hb dL_quenches_163 (lv_at hl9 6 rfl) ?_
            refine lv_bipush (v := 7) hx hb dL_quenches_165 (by decide) ?_
            refine lv_ishr hx hb dL_quenches_167 ?_
            refine lv_sipush (v := 601) hx hb dL_quenches_168 (by decide) ?_
            obtain ⟨q13, b13, z13⟩ := ln_low2 l (y9 >>> (7 &&& 31)) 601 (by decide)
            refine z_callSi (As := [.int (y9 >>> (7 &&& 31)), .int 601]) (rest := [.int 100, .int (nI (i)), .ref (ad 0)]) Z.1 z13 (va_cwS 2 hts gL_quenches_L_low rfl rfl rfl (by decide +kernel) ⟨by decide, by decide⟩) rfl hl9.1 (Nat.le_of_ble_eq_true rfl) dL_quenches_171 ⟨by show _ ≤ 320; omega, by show _ ≤ 4480; omega⟩ rfl ?_
            refine zn_iadd (a := 100) (b := q13) hx hb dL_quenches_174 ?_
            obtain ⟨hw2, hI2⟩ := hc_temper (l := l) (D := D) (T := T) (ea := ea) (mi := mi) (sa := sa) hI1 hi9 hld9 hq1 (w := 100 + q13) (by omega) (by omega)
            obtain ⟨n2, hn2⟩ : ∃ n2, n2 = max 100 (100 + q13) := ⟨_, rfl⟩
            have hq2 := QN_up hq1 (w := 100 + q13) (by omega) (by omega)
            rw [← hn2] at hw2 hI2 hq2
            obtain ⟨ρ2, hρ2⟩ : ∃ q, q = upB ρ1 i (upd (ρ1 (100 + 3 * i)) 16 (nI n2)) (ρ1 (101 + 3 * i)) (ρ1 (102 + 3 * i)) := ⟨_, rfl⟩
            rw [← hρ2] at hw2 hI2
            have f1 : ρ2 (100 + 3 * i) = upd (ρ1 (100 + 3 * i)) 16 (nI n2) := by rw [hρ2]; exact upB_b
            have f2 : ρ2 (102 + 3 * i) = ρ1 (102 + 3 * i) := by rw [hρ2]; exact upB_q
            rw [← f1, ← f2] at hq2
            have f14 : ρ2 (100 + 3 * i) 14 = nI (N 3) := hq2.1
            have f7 : ρ2 (100 + 3 * i) 7 = 20 := by rw [f1]; exact e7
            have f8 : ρ2 (100 + 3 * i) 8 = 20 := by rw [f1]; exact e8
            have hs1 := (QN_LH h20 hq2).2.2 0 (by decide)
            have hs2 : hvq kk n2 0 ≤ hvq kk 100 0 := by unfold hvq; omega
            have hs3 := (QN_hd h20 hq1 (show 0 < 8 by decide)).2
            have hn27 := hq2.2.2.1
            have hs4 := (QN_LH h20 hq2).2.1
            refine z_callW (As := [.ref (ad 0), .int (nI (i)), .int (nI (100 + q13))]) (rest := []) (zX_k ea mi sa) hX Z Mz9 (hw2 _) (vx_cwSW 3 hts gL_quenches_L_temper rfl rfl rfl (by decide +kernel) ⟨by decide, by decide⟩) rfl hl9.1 (Nat.le_of_ble_eq_true rfl) dL_quenches_175 ⟨by show _ ≤ 320; omega, by show _ ≤ 4480; omega⟩ rfl (fun u9 Hp9 lc9 Mz9 => ?_)
            refine lv_istore (lv' := [(9, .int (nI (mn8 (hvq kk n2) 7))), (8, .int (nI (hvq kk 100 0))), (7, .int (nI (N 3))), (0, .ref (ad 0)), (1, .ref (av 0)), (2, .ref (av 1)), (3, .int (nI (i))), (4, .int (y9)), (5, .int (x9)), (6, .int (cnQ N ρ x9 (N 1)))]) hx hb dL_quenches_178 hl9 (by decide) rfl (fun sl9 hl9 => ?_)
            refine lv_iload hx hb dL_quenches_180 (lv_at hl9 2 rfl) ?_
            refine lv_aload_n hx hb dL_quenches_182 rfl (lv_at hl9 4 rfl) ?_
            refine lv_iconst (v := 3) hx hb dL_quenches_183 (by decide) ?_
            refine z_iald Z Mz9 0 (h0 := av 0) (n := 6) (f := upd ga 3 (nI ((N 3) + 1))) rfl (j := 3) (by decide) (by decide) dL_quenches_184 ?_
            refine zn_top (y := nI (N 3 + 1)) (upd_same _ _ _) ?_
            refine lv_iconst (v := 1) hx hb dL_quenches_185 (by decide) ?_
            refine zn_isub (a := N 3 + 1) (b := 1) (by omega) hx hb dL_quenches_186 ?_
            refine zn_icmp_ne (a := N 3) (b := (N 3 + 1) - 1) (tgt := 284) (by omega) (by omega) hx hb dL_quenches_187 (by decide) (fun h => absurd h (fun q => q (by omega))) (fun _ => ?_)
            refine lv_aload_n hx hb dL_quenches_190 rfl (lv_at hl9 3 rfl) ?_
            refine lv_iload_n hx hb dL_quenches_191 rfl (lv_at hl9 6 rfl) ?_
            refine lv_bipush (v := 8) hx hb dL_quenches_192 (by decide) ?_
            refine z_callW (As := [.ref (ad 0), .int (nI (i)), .int 8]) (rest := []) (zX_k ea mi sa) hX Z Mz9 (hc_bIs8 hI2 hi9 _) (vx_cwSW 3 hts gL_quenches_L_billetIs rfl rfl rfl (by decide +kernel) ⟨by decide, by decide⟩) rfl hl9.1 (Nat.le_of_ble_eq_true rfl) dL_quenches_194 ⟨by show _ ≤ 320; omega, by show _ ≤ 4480; omega⟩ rfl (fun u9 Hp9 lc9 Mz9 => ?_)
            refine zn_top (y := nI (N 3)) (f14) ?_
            refine lv_iload hx hb dL_quenches_197 (lv_at hl9 2 rfl) ?_
            refine zn_icmp_ne (a := N 3) (b := N 3) (tgt := 284) (by omega) (by omega) hx hb dL_quenches_199 (by decide) (fun h => absurd h (fun q => q rfl)) (fun _ => ?_)
            refine lv_aload_n hx hb dL_quenches_202 rfl (lv_at hl9 3 rfl) ?_
            refine lv_iload_n hx hb dL_quenches_203 rfl (lv_at hl9 6 rfl) ?_
            refine lv_iconst (v := 0) hx hb dL_quenches_204 (by decide) ?_
            refine z_callW (As := [.ref (ad 0), .int (nI (i)), .int 0]) (rest := []) (zX_k ea mi sa) hX Z Mz9 (hc_bIs0 hI2 hi9 _) (vx_cwSW 3 hts gL_quenches_L_billetIs rfl rfl rfl (by decide +kernel) ⟨by decide, by decide⟩) rfl hl9.1 (Nat.le_of_ble_eq_true rfl) dL_quenches_205 ⟨by show _ ≤ 320; omega, by show _ ≤ 4480; omega⟩ rfl (fun u9 Hp9 lc9 Mz9 => ?_)
            refine zn_top (y := 20) (f7) ?_
            refine lv_bipush (v := 20) hx hb dL_quenches_208 (by decide) ?_
            refine lv_icmp_ne (tgt := 284) hx hb dL_quenches_210 (by decide) (fun h => absurd h (by decide)) (fun _ => ?_)
            refine lv_aload_n hx hb dL_quenches_213 rfl (lv_at hl9 3 rfl) ?_
            refine lv_iload_n hx hb dL_quenches_214 rfl (lv_at hl9 6 rfl) ?_
            refine lv_iconst (v := 1) hx hb dL_quenches_215 (by decide) ?_
            refine z_callW (As := [.ref (ad 0), .int (nI (i)), .int 1]) (rest := []) (zX_k ea mi sa) hX Z Mz9 (hc_bIs1 hI2 hi9 _) (vx_cwSW 3 hts gL_quenches_L_billetIs rfl rfl rfl (by decide +kernel) ⟨by decide, by decide⟩) rfl hl9.1 (Nat.le_of_ble_eq_true rfl) dL_quenches_216 ⟨by show _ ≤ 320; omega, by show _ ≤ 4480; omega⟩ rfl (fun u9 Hp9 lc9 Mz9 => ?_)
            refine zn_top (y := 20) (f8) ?_
            refine lv_bipush (v := 20) hx hb dL_quenches_219 (by decide) ?_
            refine lv_icmp_ne (tgt := 284) hx hb dL_quenches_221 (by decide) (fun h => absurd h (by decide)) (fun _ => ?_)
            refine lv_iload hx hb dL_quenches_224 (lv_at hl9 0 rfl) ?_
            refine zn_if_lt (a := mn8 (hvq kk n2) 7) (tgt := 284) (by omega) hx hb dL_quenches_226 (by decide) (fun h => absurd h (fun q => q)) (fun _ => ?_)
            refine lv_iload hx hb dL_quenches_229 (lv_at hl9 0 rfl) ?_
            refine lv_iload hx hb dL_quenches_231 (lv_at hl9 1 rfl) ?_
            refine zn_icmp_gt (a := mn8 (hvq kk n2) 7) (b := hvq kk 100 0) (tgt := 284) (by omega) (by omega) hx hb dL_quenches_233 (by decide) (fun h => absurd h (by omega)) (fun _ => ?_)
            refine lv_aload_n hx hb dL_quenches_236 rfl (lv_at hl9 3 rfl) ?_
            refine lv_iload_n hx hb dL_quenches_237 rfl (lv_at hl9 6 rfl) ?_
            refine lv_bipush (v := 100) hx hb dL_quenches_238 (by decide) ?_
            obtain ⟨hw3, hI3⟩ := hc_temper (l := l) (D := D) (T := T) (ea := ea) (mi := mi) (sa := sa) hI2 hi9 hld9 hq2 (w := 100) (by decide) (by decide)
            have hq3 := QN_up hq2 (w := 100) (by decide) (by decide)
            rw [show max n2 100 = n2 by omega] at hw3 hI3 hq3
            obtain ⟨ρ3, hρ3⟩ : ∃ q, q = upB ρ2 i (upd (ρ2 (100 + 3 * i)) 16 (nI n2)) (ρ2 (101 + 3 * i)) (ρ2 (102 + 3 * i)) := ⟨_, rfl⟩
            rw [← hρ3] at hw3 hI3
            have g1 : ρ3 (100 + 3 * i) = upd (ρ2 (100 + 3 * i)) 16 (nI n2) := by rw [hρ3]; exact upB_b
            have g2 : ρ3 (102 + 3 * i) = ρ2 (102 + 3 * i) := by rw [hρ3]; exact upB_q
            rw [← g1, ← g2] at hq3
            refine z_callW (As := [.ref (ad 0), .int (nI (i)), .int 100]) (rest := []) (zX_k ea mi sa) hX Z Mz9 (hw3 _) (vx_cwSW 3 hts gL_quenches_L_temper rfl rfl rfl (by decide +kernel) ⟨by decide, by decide⟩) rfl hl9.1 (Nat.le_of_ble_eq_true rfl) dL_quenches_240 ⟨by show _ ≤ 320; omega, by show _ ≤ 4480; omega⟩ rfl (fun u9 Hp9 lc9 Mz9 => ?_)
            refine lv_iload hx hb dL_quenches_243 (lv_at hl9 0 rfl) ?_
            refine zn_icmp_ne (a := mn8 (hvq kk n2) 7) (b := mn8 (hvq kk n2) 7) (tgt := 284) (by omega) (by omega) hx hb dL_quenches_245 (by decide) (fun h => absurd h (fun q => q rfl)) (fun _ => ?_)
            refine lv_iload hx hb dL_quenches_248 (lv_at hl9 7 rfl) ?_
            refine lv_bipush (v := 16) hx hb dL_quenches_250 (by decide) ?_
            refine lv_ishr hx hb dL_quenches_252 ?_
            refine lv_iconst (v := 2) hx hb dL_quenches_253 (by decide) ?_
            obtain ⟨q14, b14, z14⟩ := ln_low2 l (y9 >>> (16 &&& 31)) 2 (by decide)
            refine z_callSi (As := [.int (y9 >>> (16 &&& 31)), .int 2]) (rest := []) Z.1 z14 (va_cwS 2 hts gL_quenches_L_low rfl rfl rfl (by decide +kernel) ⟨by decide, by decide⟩) rfl hl9.1 (Nat.le_of_ble_eq_true rfl) dL_quenches_254 ⟨by show _ ≤ 320; omega, by show _ ≤ 4480; omega⟩ rfl ?_
            refine zn_if_eq (a := q14) (tgt := 280) (by omega) hx hb dL_quenches_257 (by decide) (fun c_19 => ?_) (fun c_19 => ?_)
            ·
              refine lv_iconst (v := 1) hx hb dL_quenches_280 (by decide) ?_
              refine lv_goto (tgt := 285) hx hb dL_quenches_281 (by decide) ?_
              exact hret _ _ _ _ _ sl9 _ _ (⟨((J, ad, Nq N, mst, bst, ρ3), upd ga 3 (nI ((N 3) + 1)), ma, aa, ca, ta), ⟨(I_le (Nat.le_succ C) hI3), (GR_q hGr), rfl⟩⟩) Mz9 rfl (rfl) rfl (by show _ ≤ 320; omega) (by show _ ≤ 4480; omega) dL_quenches_285
            ·
              refine lv_aload_n hx hb dL_quenches_260 rfl (lv_at hl9 3 rfl) ?_
              refine lv_iload_n hx hb dL_quenches_261 rfl (lv_at hl9 6 rfl) ?_
              obtain ⟨ρ4, hw4, e17, hI4⟩ := hc_test (l := l) (D := D) (T := T) (ea := ea) (mi := mi) (sa := sa) hI3 hi9 hld9 hq3
              refine z_callW (As := [.ref (ad 0), .int (nI (i))]) (rest := []) (zX_k ea mi sa) hX Z Mz9 (hw4 _) (vx_cwSW 2 hts gL_quenches_L_test rfl rfl rfl (by decide +kernel) ⟨by decide, by decide⟩) rfl hl9.1 (Nat.le_of_ble_eq_true rfl) dL_quenches_262 ⟨by show _ ≤ 320; omega, by show _ ≤ 4480; omega⟩ rfl (fun u9 Hp9 lc9 Mz9 => ?_)
              refine lv_iload hx hb dL_quenches_265 (lv_at hl9 0 rfl) ?_
              refine zn_icmp_ne (a := mn8 (hvq kk n2) 7) (b := mn8 (hvq kk n2) 7) (tgt := 284) (by omega) (by omega) hx hb dL_quenches_267 (by decide) (fun h => absurd h (fun q => q rfl)) (fun _ => ?_)
              refine lv_aload_n hx hb dL_quenches_270 rfl (lv_at hl9 3 rfl) ?_
              refine lv_iload_n hx hb dL_quenches_271 rfl (lv_at hl9 6 rfl) ?_
              refine lv_iconst (v := 0) hx hb dL_quenches_272 (by decide) ?_
              obtain ⟨pk, hpk, hw5⟩ := hc_paper (l := l) (D := D) (T := T) (ea := ea) (mi := mi) (sa := sa) hCb hI4 hi9 (n := 0) (by decide)
              refine z_callW (As := [.ref (ad 0), .int (nI (i)), .int 0]) (rest := []) (zX_k ea mi sa) hX Z Mz9 (hw5 _) (vx_cwSW 3 hts gL_quenches_L_paper rfl rfl rfl (by decide +kernel) ⟨by decide, by decide⟩) rfl hl9.1 (Nat.le_of_ble_eq_true rfl) dL_quenches_273 ⟨by show _ ≤ 320; omega, by show _ ≤ 4480; omega⟩ rfl (fun u9 Hp9 lc9 Mz9 => ?_)
              refine zn_top (y := (-1)) (hpk.2.2 e17) ?_
              refine lv_iconst (v := (-1)) hx hb dL_quenches_276 (by decide) ?_
              refine lv_icmp_ne (tgt := 284) hx hb dL_quenches_277 (by decide) (fun h => absurd h (by decide)) (fun _ => ?_)
              refine lv_iconst (v := 1) hx hb dL_quenches_280 (by decide) ?_
              refine lv_goto (tgt := 285) hx hb dL_quenches_281 (by decide) ?_
              exact hret _ _ _ _ _ sl9 _ _ (⟨((J, ad, Nq N, mst, bst, ρ4), upd ga 3 (nI ((N 3) + 1)), ma, aa, ca, ta), ⟨(I_le (Nat.le_succ C) hI4), (GR_q hGr), rfl⟩⟩) Mz9 rfl (rfl) rfl (by show _ ≤ 320; omega) (by show _ ≤ 4480; omega) dL_quenches_285
        | succ n49 ih49 =>
          intro k hk9 Hp9 lc9 sl9 Mz9 hl9
          refine lv_iload hx hb dL_quenches_49 (lv_at hl9 7 rfl) ?_
          refine lv_aload_n hx hb dL_quenches_51 rfl (lv_at hl9 1 rfl) ?_
          refine lv_iconst (v := 1) hx hb dL_quenches_52 (by decide) ?_
          refine z_iald Z Mz9 0 (h0 := av 0) (n := 6) (f := ga) rfl (j := 1) (by decide) (by decide) dL_quenches_53 ?_
          refine zn_top (y := nI (N 1)) (hg1) ?_
          refine zn_icmp_ge (a := k) (b := N 1) (tgt := 109) (by omega) (by omega) hx hb dL_quenches_54 (by decide) (fun h => absurd h (by omega)) (fun _ => ?_)
          refine lv_iload hx hb dL_quenches_57 (lv_at hl9 6 rfl) ?_
          refine lv_if_eq (tgt := 100) hx hb dL_quenches_59 (by decide) (fun c_20 => ?_) (fun c_20 => ?_)
          ·
            refine lv_iconst (v := 0) hx hb dL_quenches_100 (by decide) ?_
            refine zn_top (y := cnQ N ρ x9 (k + 1)) (show (0 : Int32) = cnQ N ρ x9 (k + 1) by rw [cnQ_s, if_pos c_20]) ?_
            refine lv_istore (lv' := [(6, .int (cnQ N ρ x9 (k + 1))), (0, .ref (ad 0)), (1, .ref (av 0)), (2, .ref (av 1)), (3, .int (nI (i))), (4, .int (y9)), (5, .int (x9)), (7, .int (nI (k)))]) hx hb dL_quenches_101 hl9 (by decide) rfl (fun sl9 hl9 => ?_)
            refine lv_iinc (v := nI (k + 1)) (lv' := [(7, .int (nI (k + 1))), (6, .int (cnQ N ρ x9 (k + 1))), (0, .ref (ad 0)), (1, .ref (av 0)), (2, .ref (av 1)), (3, .int (nI (i))), (4, .int (y9)), (5, .int (x9))]) hx hb dL_quenches_103 hl9 (k := 7) rfl (nI_add (k) 1) (by decide) rfl (fun sl9 hl9 => ?_)
            refine lv_goto (tgt := 49) hx hb dL_quenches_106 (by decide) ?_
            refine W.widen (show _ ≤ 0 + 10 * (k + 1) by omega) (show _ ≤ 0 + 140 * (k + 1) by omega) ?_
            exact ih49 (k + 1) (by omega)  _ _ _ Mz9 (lv_sub hl9 [2, 3, 4, 5, 6, 7, 1, 0] rfl)
          ·
            refine lv_iload hx hb dL_quenches_62 (lv_at hl9 5 rfl) ?_
            refine lv_iload hx hb dL_quenches_64 (lv_at hl9 7 rfl) ?_
            refine lv_ishr hx hb dL_quenches_66 ?_
            refine lv_iconst (v := 1) hx hb dL_quenches_67 (by decide) ?_
            refine lv_iand hx hb dL_quenches_68 ?_
            refine lv_if_eq (tgt := 96) hx hb dL_quenches_69 (by decide) (fun c_21 => ?_) (fun c_21 => ?_)
            ·
              refine lv_iconst (v := 1) hx hb dL_quenches_96 (by decide) ?_
              refine lv_goto (tgt := 101) hx hb dL_quenches_97 (by decide) ?_
              refine zn_top (y := cnQ N ρ x9 (k + 1)) (show (1 : Int32) = cnQ N ρ x9 (k + 1) by rw [cnQ_s, if_neg c_20, if_pos c_21]) ?_
              refine lv_istore (lv' := [(6, .int (cnQ N ρ x9 (k + 1))), (0, .ref (ad 0)), (1, .ref (av 0)), (2, .ref (av 1)), (3, .int (nI (i))), (4, .int (y9)), (5, .int (x9)), (7, .int (nI (k)))]) hx hb dL_quenches_101 hl9 (by decide) rfl (fun sl9 hl9 => ?_)
              refine lv_iinc (v := nI (k + 1)) (lv' := [(7, .int (nI (k + 1))), (6, .int (cnQ N ρ x9 (k + 1))), (0, .ref (ad 0)), (1, .ref (av 0)), (2, .ref (av 1)), (3, .int (nI (i))), (4, .int (y9)), (5, .int (x9))]) hx hb dL_quenches_103 hl9 (k := 7) rfl (nI_add (k) 1) (by decide) rfl (fun sl9 hl9 => ?_)
              refine lv_goto (tgt := 49) hx hb dL_quenches_106 (by decide) ?_
              refine W.widen (show _ ≤ 0 + 10 * (k + 1) by omega) (show _ ≤ 0 + 140 * (k + 1) by omega) ?_
              exact ih49 (k + 1) (by omega)  _ _ _ Mz9 (lv_sub hl9 [2, 3, 4, 5, 6, 7, 1, 0] rfl)
            ·
              refine lv_aload_n hx hb dL_quenches_72 rfl (lv_at hl9 0 rfl) ?_
              refine lv_iload hx hb dL_quenches_73 (lv_at hl9 7 rfl) ?_
              refine lv_iconst (v := 1) hx hb dL_quenches_75 (by decide) ?_
              refine z_callW (As := [.ref (ad 0), .int (nI (k)), .int 1]) (rest := []) (zX_k ea mi sa) hX Z Mz9 (hc_bIs1 hI (show k < N 1 by omega) _) (vx_cwSW 3 hts gL_quenches_L_billetIs rfl rfl rfl (by decide +kernel) ⟨by decide, by decide⟩) rfl hl9.1 (Nat.le_of_ble_eq_true rfl) dL_quenches_76 ⟨by show _ ≤ 320; omega, by show _ ≤ 4480; omega⟩ rfl (fun u9 Hp9 lc9 Mz9 => ?_)
              refine lv_sipush (v := 800) hx hb dL_quenches_79 (by decide) ?_
              refine lv_icmp_lt (tgt := 100) hx hb dL_quenches_82 (by decide) (fun c_22 => ?_) (fun c_22 => ?_)
              ·
                refine lv_iconst (v := 0) hx hb dL_quenches_100 (by decide) ?_
                refine zn_top (y := cnQ N ρ x9 (k + 1)) (show (0 : Int32) = cnQ N ρ x9 (k + 1) by rw [cnQ_s, if_neg c_20, if_neg c_21, if_pos c_22]) ?_
                refine lv_istore (lv' := [(6, .int (cnQ N ρ x9 (k + 1))), (0, .ref (ad 0)), (1, .ref (av 0)), (2, .ref (av 1)), (3, .int (nI (i))), (4, .int (y9)), (5, .int (x9)), (7, .int (nI (k)))]) hx hb dL_quenches_101 hl9 (by decide) rfl (fun sl9 hl9 => ?_)
                refine lv_iinc (v := nI (k + 1)) (lv' := [(7, .int (nI (k + 1))), (6, .int (cnQ N ρ x9 (k + 1))), (0, .ref (ad 0)), (1, .ref (av 0)), (2, .ref (av 1)), (3, .int (nI (i))), (4, .int (y9)), (5, .int (x9))]) hx hb dL_quenches_103 hl9 (k := 7) rfl (nI_add (k) 1) (by decide) rfl (fun sl9 hl9 => ?_)
                refine lv_goto (tgt := 49) hx hb dL_quenches_106 (by decide) ?_
                refine W.widen (show _ ≤ 0 + 10 * (k + 1) by omega) (show _ ≤ 0 + 140 * (k + 1) by omega) ?_
                exact ih49 (k + 1) (by omega)  _ _ _ Mz9 (lv_sub hl9 [2, 3, 4, 5, 6, 7, 1, 0] rfl)
              ·
                refine lv_aload_n hx hb dL_quenches_85 rfl (lv_at hl9 0 rfl) ?_
                refine lv_iload hx hb dL_quenches_86 (lv_at hl9 7 rfl) ?_
                refine lv_bipush (v := 6) hx hb dL_quenches_88 (by decide) ?_
                refine z_callW (As := [.ref (ad 0), .int (nI (k)), .int 6]) (rest := []) (zX_k ea mi sa) hX Z Mz9 (hc_bIs6 hI (show k < N 1 by omega) _) (vx_cwSW 3 hts gL_quenches_L_billetIs rfl rfl rfl (by decide +kernel) ⟨by decide, by decide⟩) rfl hl9.1 (Nat.le_of_ble_eq_true rfl) dL_quenches_90 ⟨by show _ ≤ 320; omega, by show _ ≤ 4480; omega⟩ rfl (fun u9 Hp9 lc9 Mz9 => ?_)
                refine zn_top (y := ρ (100 + 3 * k) 12) (cr01 (I_B hI (show k < N 1 by omega)).2.2.2.2.2.2.2.1) ?_
                refine lv_if_ne (tgt := 100) hx hb dL_quenches_93 (by decide) (fun c_23 => ?_) (fun c_23 => ?_)
                ·
                  refine lv_iconst (v := 0) hx hb dL_quenches_100 (by decide) ?_
                  refine zn_top (y := cnQ N ρ x9 (k + 1)) (show (0 : Int32) = cnQ N ρ x9 (k + 1) by rw [cnQ_s, if_neg c_20, if_neg c_21, if_neg c_22, if_neg c_23]) ?_
                  refine lv_istore (lv' := [(6, .int (cnQ N ρ x9 (k + 1))), (0, .ref (ad 0)), (1, .ref (av 0)), (2, .ref (av 1)), (3, .int (nI (i))), (4, .int (y9)), (5, .int (x9)), (7, .int (nI (k)))]) hx hb dL_quenches_101 hl9 (by decide) rfl (fun sl9 hl9 => ?_)
                  refine lv_iinc (v := nI (k + 1)) (lv' := [(7, .int (nI (k + 1))), (6, .int (cnQ N ρ x9 (k + 1))), (0, .ref (ad 0)), (1, .ref (av 0)), (2, .ref (av 1)), (3, .int (nI (i))), (4, .int (y9)), (5, .int (x9))]) hx hb dL_quenches_103 hl9 (k := 7) rfl (nI_add (k) 1) (by decide) rfl (fun sl9 hl9 => ?_)
                  refine lv_goto (tgt := 49) hx hb dL_quenches_106 (by decide) ?_
                  refine W.widen (show _ ≤ 0 + 10 * (k + 1) by omega) (show _ ≤ 0 + 140 * (k + 1) by omega) ?_
                  exact ih49 (k + 1) (by omega)  _ _ _ Mz9 (lv_sub hl9 [2, 3, 4, 5, 6, 7, 1, 0] rfl)
                ·
                  refine lv_iconst (v := 1) hx hb dL_quenches_96 (by decide) ?_
                  refine lv_goto (tgt := 101) hx hb dL_quenches_97 (by decide) ?_
                  refine zn_top (y := cnQ N ρ x9 (k + 1)) (show (1 : Int32) = cnQ N ρ x9 (k + 1) by rw [cnQ_s, if_neg c_20, if_neg c_21, if_neg c_22, if_pos c_23]) ?_
                  refine lv_istore (lv' := [(6, .int (cnQ N ρ x9 (k + 1))), (0, .ref (ad 0)), (1, .ref (av 0)), (2, .ref (av 1)), (3, .int (nI (i))), (4, .int (y9)), (5, .int (x9)), (7, .int (nI (k)))]) hx hb dL_quenches_101 hl9 (by decide) rfl (fun sl9 hl9 => ?_)
                  refine lv_iinc (v := nI (k + 1)) (lv' := [(7, .int (nI (k + 1))), (6, .int (cnQ N ρ x9 (k + 1))), (0, .ref (ad 0)), (1, .ref (av 0)), (2, .ref (av 1)), (3, .int (nI (i))), (4, .int (y9)), (5, .int (x9))]) hx hb dL_quenches_103 hl9 (k := 7) rfl (nI_add (k) 1) (by decide) rfl (fun sl9 hl9 => ?_)
                  refine lv_goto (tgt := 49) hx hb dL_quenches_106 (by decide) ?_
                  refine W.widen (show _ ≤ 0 + 10 * (k + 1) by omega) (show _ ≤ 0 + 140 * (k + 1) by omega) ?_
                  exact ih49 (k + 1) (by omega)  _ _ _ Mz9 (lv_sub hl9 [2, 3, 4, 5, 6, 7, 1, 0] rfl)
      refine W.widen (show _ ≤ 0 + 10 * 0 by omega) (show _ ≤ 0 + 140 * 0 by omega) ?_
      exact LP49_4 ((N 1) - 0) (0) (by omega)  _ _ _ Mz9 (lv_sub hl9 [3, 4, 5, 6, 7, 2, 1, 0] rfl)
end LAW3
