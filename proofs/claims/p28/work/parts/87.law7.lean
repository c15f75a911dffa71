/-! ===== the law's own methods: acts ===== -/
section LAW7
variable {l : Launch} {D : va_G} {T : Nat → ClassId} {ea mi : Nat} {sa : Nat → Nat}
variable {C : Nat} {ad : Nat → Nat} {J : List Nat} {N mst bst : Nat → Nat} {ρ : Nat → Nat → Int32} {ga ma aa ca ta : Nat → Int32} {av : Nat → Nat} {i : Nat}
set_option maxHeartbeats 4000000 in
set_option maxRecDepth 100000 in
theorem lm_acts (hfl : l.stackTraces = false) (hCb : C < 2 ^ 30) (hI : Inv C J N mst bst ρ aa ca) (hGr : GRc N ga) (x9 y9 : Int32) : ZIH l yL_acts wsL_acts aR9 (zX ea mi sa) D T (S := {Y : YS // PIc (C + 1) (ad 0) Y}) (lwR T av ga ma aa ca ta ++ iw J ad (hG ad T ea nof N mst bst ρ)) (fun Y => yW T ea av Y.1) [.ref (ad 0), .ref (av 0), .ref (av 1), .ref (av 2), .ref (av 3), .ref (av 4), .int (x9), .int (y9)] 1 400 5600 := by
  obtain ⟨hg0, hg1, hg2, hg3, hg4⟩ := id hGr
  have hn1 := I_N1 hI
  refine z_inIHC (cc := cL_acts) (maxL := 11) (rt := .boolean) (by decide +kernel) rfl (Nat.le_of_ble_eq_true rfl) ?_
  intro p e s m args below meth c sl9 A Q Z hX Mz9 hl9 hret
  have Z : zC p s m args c cL_acts 11 RL wsL_acts D T A := Z
  have hx := Z.1.1
  have hb := Z.1.2.1
  have hts := Z.1.2.2.2.2
  have hl9 : lv_has sl9 11 [(0, .ref (ad 0)), (1, .ref (av 0)), (2, .ref (av 1)), (3, .ref (av 2)), (4, .ref (av 3)), (5, .ref (av 4)), (6, .int (x9)), (7, .int (y9))] := hl9
  refine lv_iload hx hb dL_acts_0 (lv_at hl9 6 rfl) ?_
  refine lv_bipush (v := 15) hx hb dL_acts_2 (by decide) ?_
  obtain ⟨q1, b1, z1⟩ := ln_low2 l x9 15 (by decide)
  refine z_callSi (As := [.int (x9), .int 15]) (rest := []) Z.1 z1 (va_cwS 2 hts gL_acts_L_low rfl rfl rfl (by decide +kernel) ⟨by decide, by decide⟩) rfl hl9.1 (Nat.le_of_ble_eq_true rfl) dL_acts_4 ⟨by show _ ≤ 400; omega, by show _ ≤ 5600; omega⟩ rfl ?_
  refine lv_istore (lv' := [(8, .int (nI (q1))), (0, .ref (ad 0)), (1, .ref (av 0)), (2, .ref (av 1)), (3, .ref (av 2)), (4, .ref (av 3)), (5, .ref (av 4)), (6, .int (x9)), (7, .int (y9))]) hx hb dL_acts_7 hl9 (by decide) rfl (fun sl9 hl9 => ?_)
  refine lv_iload hx hb dL_acts_9 (lv_at hl9 0 rfl) ?_
  refine lv_iconst (v := 2) hx hb dL_acts_11 (by decide) ?_
  refine zn_icmp_lt (a := q1) (b := 2) (tgt := 21) (by omega) (by decide) hx hb dL_acts_12 (by decide) (fun c_1 => ?_) (fun c_1 => ?_)
  ·
    refine lv_aload_n hx hb dL_acts_21 rfl (lv_at hl9 1 rfl) ?_
    refine lv_aload_n hx hb dL_acts_22 rfl (lv_at hl9 2 rfl) ?_
    refine lv_aload_n hx hb dL_acts_23 rfl (lv_at hl9 3 rfl) ?_
    refine lv_aload_n hx hb dL_acts_24 rfl (lv_at hl9 4 rfl) ?_
    refine lv_aload hx hb dL_acts_25 (lv_at hl9 6 rfl) ?_
    refine lv_iload hx hb dL_acts_27 (lv_at hl9 7 rfl) ?_
    refine lv_iconst (v := 4) hx hb dL_acts_29 (by decide) ?_
    refine lv_ishr hx hb dL_acts_30 ?_
    refine lv_iload hx hb dL_acts_31 (lv_at hl9 8 rfl) ?_
    refine z_callC (As := [.ref (ad 0), .ref (av 0), .ref (av 1), .ref (av 2), .ref (av 4), .int (x9 >>> (4 &&& 31)), .int (y9)]) (rest := []) (zX_k ea mi sa) hX Z Mz9 (lm_makes hfl hI hGr (x9 >>> (4 &&& 31)) y9) (va_cwS 7 hts gL_acts_L_makes rfl rfl rfl (by decide +kernel) ⟨by decide, by decide⟩) rfl hl9.1 (Nat.le_of_ble_eq_true rfl) dL_acts_33 ⟨by show _ ≤ 400; omega, by show _ ≤ 5600; omega⟩ rfl (fun u9 Hp9 lc9 Mz9 => ?_)
    exact hret _ _ _ _ _ sl9 _ _ (u9) Mz9 rfl (rfl) rfl (by show _ ≤ 400; omega) (by show _ ≤ 5600; omega) dL_acts_36
  ·
    refine lv_aload_n hx hb dL_acts_15 rfl (lv_at hl9 2 rfl) ?_
    refine lv_iconst (v := 1) hx hb dL_acts_16 (by decide) ?_
    refine z_iald Z Mz9 0 (h0 := av 0) (n := 6) (f := ga) rfl (j := 1) (by decide) (by decide) dL_acts_17 ?_
    refine zn_top (y := nI (N 1)) (hg1) ?_
    refine zn_if_ne (a := N 1) (tgt := 37) (by omega) hx hb dL_acts_18 (by decide) (fun c_2 => ?_) (fun c_2 => ?_)
    ·
      refine lv_iload hx hb dL_acts_37 (lv_at hl9 0 rfl) ?_
      refine lv_iconst (v := 2) hx hb dL_acts_39 (by decide) ?_
      refine zn_icmp_ne (a := q1) (b := 2) (tgt := 55) (by omega) (by decide) hx hb dL_acts_40 (by decide) (fun c_3 => ?_) (fun c_3 => ?_)
      ·
        refine lv_iload hx hb dL_acts_55 (lv_at hl9 7 rfl) ?_
        refine lv_iconst (v := 4) hx hb dL_acts_57 (by decide) ?_
        refine lv_ishr hx hb dL_acts_58 ?_
        refine lv_aload_n hx hb dL_acts_59 rfl (lv_at hl9 2 rfl) ?_
        refine lv_iconst (v := 1) hx hb dL_acts_60 (by decide) ?_
        refine z_iald Z Mz9 0 (h0 := av 0) (n := 6) (f := ga) rfl (j := 1) (by decide) (by decide) dL_acts_61 ?_
        refine zn_top (y := nI (N 1)) (hg1) ?_
        obtain ⟨q2, b2, z2⟩ := ln_low2 l (x9 >>> (4 &&& 31)) (N 1) (by omega)
        refine z_callSi (As := [.int (x9 >>> (4 &&& 31)), .int (nI (N 1))]) (rest := []) Z.1 z2 (va_cwS 2 hts gL_acts_L_low rfl rfl rfl (by decide +kernel) ⟨by decide, by decide⟩) rfl hl9.1 (Nat.le_of_ble_eq_true rfl) dL_acts_62 ⟨by show _ ≤ 400; omega, by show _ ≤ 5600; omega⟩ rfl ?_
        refine lv_istore (lv' := [(9, .int (nI (q2))), (8, .int (nI (q1))), (0, .ref (ad 0)), (1, .ref (av 0)), (2, .ref (av 1)), (3, .ref (av 2)), (4, .ref (av 3)), (5, .ref (av 4)), (6, .int (x9)), (7, .int (y9))]) hx hb dL_acts_65 hl9 (by decide) rfl (fun sl9 hl9 => ?_)
        refine lv_iload hx hb dL_acts_67 (lv_at hl9 1 rfl) ?_
        refine lv_bipush (v := 6) hx hb dL_acts_69 (by decide) ?_
        refine zn_icmp_ge (a := q1) (b := 6) (tgt := 85) (by omega) (by decide) hx hb dL_acts_71 (by decide) (fun c_4 => ?_) (fun c_4 => ?_)
        ·
          refine lv_iload hx hb dL_acts_85 (lv_at hl9 1 rfl) ?_
          refine lv_bipush (v := 10) hx hb dL_acts_87 (by decide) ?_
          refine zn_icmp_ge (a := q1) (b := 10) (tgt := 107) (by omega) (by decide) hx hb dL_acts_89 (by decide) (fun c_5 => ?_) (fun c_5 => ?_)
          ·
            refine lv_iload hx hb dL_acts_107 (lv_at hl9 1 rfl) ?_
            refine lv_bipush (v := 10) hx hb dL_acts_109 (by decide) ?_
            refine zn_icmp_ne (a := q1) (b := 10) (tgt := 199) (by omega) (by decide) hx hb dL_acts_111 (by decide) (fun c_6 => ?_) (fun c_6 => ?_)
            ·
              refine lv_iload hx hb dL_acts_199 (lv_at hl9 1 rfl) ?_
              refine lv_bipush (v := 11) hx hb dL_acts_201 (by decide) ?_
              refine zn_icmp_ne (a := q1) (b := 11) (tgt := 217) (by omega) (by decide) hx hb dL_acts_203 (by decide) (fun c_7 => ?_) (fun c_7 => ?_)
              ·
                refine lv_iload hx hb dL_acts_217 (lv_at hl9 1 rfl) ?_
                refine lv_bipush (v := 12) hx hb dL_acts_219 (by decide) ?_
                refine zn_icmp_ne (a := q1) (b := 12) (tgt := 242) (by omega) (by decide) hx hb dL_acts_221 (by decide) (fun c_8 => ?_) (fun c_8 => ?_)
                ·
                  refine lv_iload hx hb dL_acts_242 (lv_at hl9 1 rfl) ?_
                  refine lv_bipush (v := 13) hx hb dL_acts_244 (by decide) ?_
                  refine zn_icmp_ne (a := q1) (b := 13) (tgt := 298) (by omega) (by decide) hx hb dL_acts_246 (by decide) (fun c_9 => ?_) (fun c_9 => ?_)
                  ·
                    refine lv_aload_n hx hb dL_acts_298 rfl (lv_at hl9 2 rfl) ?_
                    refine lv_aload_n hx hb dL_acts_299 rfl (lv_at hl9 3 rfl) ?_
                    refine lv_aload_n hx hb dL_acts_300 rfl (lv_at hl9 5 rfl) ?_
                    refine lv_aload hx hb dL_acts_301 (lv_at hl9 6 rfl) ?_
                    refine lv_iload hx hb dL_acts_303 (lv_at hl9 0 rfl) ?_
                    refine z_callC (As := [.ref (ad 0), .ref (av 0), .ref (av 2), .ref (av 3), .int (nI (q2))]) (rest := []) (zX_k ea mi sa) hX Z Mz9 (lm_isBillet hfl hCb hI hg3 (show q2 < N 1 by omega)) (va_cwS 5 hts gL_acts_L_isBillet rfl rfl rfl (by decide +kernel) ⟨by decide, by decide⟩) rfl hl9.1 (Nat.le_of_ble_eq_true rfl) dL_acts_305 ⟨by show _ ≤ 400; omega, by show _ ≤ 5600; omega⟩ rfl (fun u9 Hp9 lc9 Mz9 => ?_)
                    exact hret _ _ _ _ _ sl9 _ _ (⟨((J, ad, N, mst, bst, ρ), ga, ma, aa, ca, ta), ⟨(I_le (Nat.le_succ C) hI), hGr, rfl⟩⟩) Mz9 rfl (rfl) rfl (by show _ ≤ 400; omega) (by show _ ≤ 5600; omega) dL_acts_308
                  ·
                    refine lv_aload_n hx hb dL_acts_249 rfl (lv_at hl9 2 rfl) ?_
                    refine lv_iload hx hb dL_acts_250 (lv_at hl9 0 rfl) ?_
                    refine lv_iload hx hb dL_acts_252 (lv_at hl9 9 rfl) ?_
                    refine lv_iconst (v := 3) hx hb dL_acts_254 (by decide) ?_
                    obtain ⟨q3, b3, z3⟩ := ln_low2 l y9 3 (by decide)
                    refine z_callSi (As := [.int (y9), .int 3]) (rest := [.int (nI (q2)), .ref (ad 0)]) Z.1 z3 (va_cwS 2 hts gL_acts_L_low rfl rfl rfl (by decide +kernel) ⟨by decide, by decide⟩) rfl hl9.1 (Nat.le_of_ble_eq_true rfl) dL_acts_255 ⟨by show _ ≤ 400; omega, by show _ ≤ 5600; omega⟩ rfl ?_
                    have hi2 : q2 < N 1 := by omega
                    obtain ⟨-, -, -, ⟨co, o1, o2, o3⟩, -, -, -, -, ⟨p9, t1, t2, t3⟩, -⟩ := I_B hI hi2
                    have hac := (act_pop p9 t1 q3 (by omega)).1
                    by_cases q9 : 900 ≤ co
                    ·
                      obtain ⟨hw1, hI1⟩ := hc_layer (l := l) (D := D) (T := T) (ea := ea) (mi := mi) (sa := sa) hI hi2 t1 t3 (t := q3) (by omega) (by rw [o3]; exact (nI_leI (a := 900) (by decide) (by omega)).mpr q9)
                      obtain ⟨ρ1, hρ1⟩ : ∃ q, q = upB ρ q2 (upd (ρ (100 + 3 * q2)) 13 (nI (actN p9 q3))) (ρ (101 + 3 * q2)) (ρ (102 + 3 * q2)) := ⟨_, rfl⟩
                      rw [← hρ1] at hw1 hI1
                      have e8 : ρ1 (100 + 3 * q2) 8 = nI co := by rw [hρ1, upB_b]; exact o3
                      have e13 : ρ1 (100 + 3 * q2) 13 = nI (actN p9 q3) := by rw [hρ1, upB_b]; rfl
                      refine z_callW (As := [.ref (ad 0), .int (nI (q2)), .int (nI (q3))]) (rest := []) (zX_k ea mi sa) hX Z Mz9 (hw1 _) (vx_cwSW 3 hts gL_acts_L_layer rfl rfl rfl (by decide +kernel) ⟨by decide, by decide⟩) rfl hl9.1 (Nat.le_of_ble_eq_true rfl) dL_acts_258 ⟨by show _ ≤ 400; omega, by show _ ≤ 5600; omega⟩ rfl (fun u9 Hp9 lc9 Mz9 => ?_)
                      refine lv_aload_n hx hb dL_acts_261 rfl (lv_at hl9 2 rfl) ?_
                      refine lv_iload hx hb dL_acts_262 (lv_at hl9 0 rfl) ?_
                      refine lv_iconst (v := 1) hx hb dL_acts_264 (by decide) ?_
                      refine z_callW (As := [.ref (ad 0), .int (nI (q2)), .int 1]) (rest := [.int (nI (actN p9 q3))]) (zX_k ea mi sa) hX Z Mz9 (hc_bIs1 hI1 hi2 _) (vx_cwSW 3 hts gL_acts_L_billetIs rfl rfl rfl (by decide +kernel) ⟨by decide, by decide⟩) rfl hl9.1 (Nat.le_of_ble_eq_true rfl) dL_acts_265 ⟨by show _ ≤ 400; omega, by show _ ≤ 5600; omega⟩ rfl (fun u9 Hp9 lc9 Mz9 => ?_)
                      refine zn_top (y := nI (co)) (e8) ?_
                      refine lv_sipush (v := 900) hx hb dL_acts_268 (by decide) ?_
                      refine zn_icmp_ge (a := co) (b := 900) (tgt := 279) (by omega) (by decide) hx hb dL_acts_271 (by decide) (fun _ => ?_) (fun h => absurd h (by omega))
                      refine lv_aload_n hx hb dL_acts_279 rfl (lv_at hl9 2 rfl) ?_
                      refine lv_iload hx hb dL_acts_280 (lv_at hl9 0 rfl) ?_
                      refine lv_bipush (v := 7) hx hb dL_acts_282 (by decide) ?_
                      refine z_callW (As := [.ref (ad 0), .int (nI (q2)), .int 7]) (rest := [.int (nI (actN p9 q3))]) (zX_k ea mi sa) hX Z Mz9 (hc_bIs7 hI1 hi2 _) (vx_cwSW 3 hts gL_acts_L_billetIs rfl rfl rfl (by decide +kernel) ⟨by decide, by decide⟩) rfl hl9.1 (Nat.le_of_ble_eq_true rfl) dL_acts_284 ⟨by show _ ≤ 400; omega, by show _ ≤ 5600; omega⟩ rfl (fun u9 Hp9 lc9 Mz9 => ?_)
                      refine zn_top (y := nI (actN p9 q3)) (e13) ?_
                      refine zn_icmp_ne (a := actN p9 q3) (b := actN p9 q3) (tgt := 294) (by omega) (by omega) hx hb dL_acts_287 (by decide) (fun h => absurd h (fun q => q rfl)) (fun _ => ?_)
                      refine lv_iconst (v := 1) hx hb dL_acts_290 (by decide) ?_
                      refine lv_goto (tgt := 308) hx hb dL_acts_291 (by decide) ?_
                      exact hret _ _ _ _ _ sl9 _ _ (⟨((J, ad, N, mst, bst, ρ1), ga, ma, aa, ca, ta), ⟨(I_le (Nat.le_succ C) hI1), hGr, rfl⟩⟩) Mz9 rfl (rfl) rfl (by show _ ≤ 400; omega) (by show _ ≤ 5600; omega) dL_acts_308
                    ·
                      have hw1 := hc_layer_c (l := l) (D := D) (T := T) (ea := ea) (mi := mi) (sa := sa) (ad := ad) (J := J) (N := N) (mst := mst) (bst := bst) (ρ := ρ) hfl hI hi2 (t := q3) (by omega) (fun q => q9 ((nI_leI (a := 900) (by decide) (by omega)).mp (by rw [← o3]; exact q)))
                      refine z_callW (As := [.ref (ad 0), .int (nI (q2)), .int (nI (q3))]) (rest := []) (zX_k ea mi sa) hX Z Mz9 (hw1 _) (vx_cwSW 3 hts gL_acts_L_layer rfl rfl rfl (by decide +kernel) ⟨by decide, by decide⟩) rfl hl9.1 (Nat.le_of_ble_eq_true rfl) dL_acts_258 ⟨by show _ ≤ 400; omega, by show _ ≤ 5600; omega⟩ rfl (fun u9 Hp9 lc9 Mz9 => ?_)
                      refine lv_aload_n hx hb dL_acts_261 rfl (lv_at hl9 2 rfl) ?_
                      refine lv_iload hx hb dL_acts_262 (lv_at hl9 0 rfl) ?_
                      refine lv_iconst (v := 1) hx hb dL_acts_264 (by decide) ?_
                      refine z_callW (As := [.ref (ad 0), .int (nI (q2)), .int 1]) (rest := [.int (-1000003)]) (zX_k ea mi sa) hX Z Mz9 (hc_bIs1 hI hi2 _) (vx_cwSW 3 hts gL_acts_L_billetIs rfl rfl rfl (by decide +kernel) ⟨by decide, by decide⟩) rfl hl9.1 (Nat.le_of_ble_eq_true rfl) dL_acts_265 ⟨by show _ ≤ 400; omega, by show _ ≤ 5600; omega⟩ rfl (fun u9 Hp9 lc9 Mz9 => ?_)
                      refine zn_top (y := nI (co)) (o3) ?_
                      refine lv_sipush (v := 900) hx hb dL_acts_268 (by decide) ?_
                      refine zn_icmp_ge (a := co) (b := 900) (tgt := 279) (by omega) (by decide) hx hb dL_acts_271 (by decide) (fun h => absurd h (by omega)) (fun _ => ?_)
                      refine lv_ldc (v := (-1000003)) hx hb Z.1.2.2.2.1 (hts (.constant RL 28 (-1000003)) (by decide +kernel)) dL_acts_274 ?_
                      refine lv_goto (tgt := 287) hx hb dL_acts_276 (by decide) ?_
                      refine lv_icmp_ne (tgt := 294) hx hb dL_acts_287 (by decide) (fun h => absurd h (by decide)) (fun _ => ?_)
                      refine lv_iconst (v := 1) hx hb dL_acts_290 (by decide) ?_
                      refine lv_goto (tgt := 308) hx hb dL_acts_291 (by decide) ?_
                      exact hret _ _ _ _ _ sl9 _ _ (⟨((J, ad, N, mst, bst, ρ), ga, ma, aa, ca, ta), ⟨(I_le (Nat.le_succ C) hI), hGr, rfl⟩⟩) Mz9 rfl (rfl) rfl (by show _ ≤ 400; omega) (by show _ ≤ 5600; omega) dL_acts_308
                ·
                  refine lv_aload_n hx hb dL_acts_224 rfl (lv_at hl9 2 rfl) ?_
                  refine lv_aload_n hx hb dL_acts_225 rfl (lv_at hl9 3 rfl) ?_
                  refine lv_iload hx hb dL_acts_226 (lv_at hl9 0 rfl) ?_
                  refine lv_iload hx hb dL_acts_228 (lv_at hl9 9 rfl) ?_
                  refine lv_sipush (v := 256) hx hb dL_acts_230 (by decide) ?_
                  obtain ⟨q4, b4, z4⟩ := ln_low2 l y9 256 (by decide)
                  refine z_callSi (As := [.int (y9), .int 256]) (rest := [.int (nI (q2)), .ref (av 0), .ref (ad 0)]) Z.1 z4 (va_cwS 2 hts gL_acts_L_low rfl rfl rfl (by decide +kernel) ⟨by decide, by decide⟩) rfl hl9.1 (Nat.le_of_ble_eq_true rfl) dL_acts_233 ⟨by show _ ≤ 400; omega, by show _ ≤ 5600; omega⟩ rfl ?_
                  refine z_callC (As := [.ref (ad 0), .ref (av 0), .int (nI (q2)), .int (nI (q4))]) (rest := []) (zX_k ea mi sa) hX Z Mz9 (lm_isNearer hfl hI hGr (show q2 < N 1 by omega) (show q4 < 256 by omega)) (va_cwS 4 hts gL_acts_L_isNearer rfl rfl rfl (by decide +kernel) ⟨by decide, by decide⟩) rfl hl9.1 (Nat.le_of_ble_eq_true rfl) dL_acts_236 ⟨by show _ ≤ 400; omega, by show _ ≤ 5600; omega⟩ rfl (fun u9 Hp9 lc9 Mz9 => ?_)
                  refine lv_goto (tgt := 308) hx hb dL_acts_239 (by decide) ?_
                  exact hret _ _ _ _ _ sl9 _ _ (u9) Mz9 rfl (rfl) rfl (by show _ ≤ 400; omega) (by show _ ≤ 5600; omega) dL_acts_308
              ·
                refine lv_aload_n hx hb dL_acts_206 rfl (lv_at hl9 2 rfl) ?_
                refine lv_aload_n hx hb dL_acts_207 rfl (lv_at hl9 3 rfl) ?_
                refine lv_aload_n hx hb dL_acts_208 rfl (lv_at hl9 4 rfl) ?_
                refine lv_iload hx hb dL_acts_209 (lv_at hl9 0 rfl) ?_
                refine lv_iload hx hb dL_acts_211 (lv_at hl9 9 rfl) ?_
                refine z_callC (As := [.ref (ad 0), .ref (av 0), .ref (av 1), .int (nI (q2)), .int (y9)]) (rest := []) (zX_k ea mi sa) hX Z Mz9 (lm_quenches hfl hCb hI hGr (show q2 < N 1 by omega) y9) (va_cwS 5 hts gL_acts_L_quenches rfl rfl rfl (by decide +kernel) ⟨by decide, by decide⟩) rfl hl9.1 (Nat.le_of_ble_eq_true rfl) dL_acts_213 ⟨by show _ ≤ 400; omega, by show _ ≤ 5600; omega⟩ rfl (fun u9 Hp9 lc9 Mz9 => ?_)
                exact hret _ _ _ _ _ sl9 _ _ (u9) Mz9 rfl (rfl) rfl (by show _ ≤ 400; omega) (by show _ ≤ 5600; omega) dL_acts_216
            ·
              refine lv_aload_n hx hb dL_acts_114 rfl (lv_at hl9 2 rfl) ?_
              refine lv_iload hx hb dL_acts_115 (lv_at hl9 0 rfl) ?_
              refine lv_iconst (v := 1) hx hb dL_acts_117 (by decide) ?_
              refine lv_iload hx hb dL_acts_118 (lv_at hl9 9 rfl) ?_
              refine lv_bipush (v := 20) hx hb dL_acts_120 (by decide) ?_
              obtain ⟨q5, b5, z5⟩ := ln_low2 l y9 20 (by decide)
              refine z_callSi (As := [.int (y9), .int 20]) (rest := [.int 1, .int (nI (q2)), .ref (ad 0)]) Z.1 z5 (va_cwS 2 hts gL_acts_L_low rfl rfl rfl (by decide +kernel) ⟨by decide, by decide⟩) rfl hl9.1 (Nat.le_of_ble_eq_true rfl) dL_acts_122 ⟨by show _ ≤ 400; omega, by show _ ≤ 5600; omega⟩ rfl ?_
              refine zn_iadd (a := 1) (b := q5) hx hb dL_acts_125 ?_
              have hi2 : q2 < N 1 := by omega
              obtain ⟨β1, hw1, hI1⟩ := hc_cool (l := l) (D := D) (T := T) (ea := ea) (mi := mi) (sa := sa) hI hi2 (m9 := 1 + q5) (by omega) (by omega)
              obtain ⟨ρ1, hρ1⟩ : ∃ q, q = upB ρ q2 β1 (ρ (101 + 3 * q2)) (ρ (102 + 3 * q2)) := ⟨_, rfl⟩
              rw [← hρ1] at hw1 hI1
              have e1 : ρ1 (100 + 3 * q2) = β1 := by rw [hρ1]; exact upB_b
              rw [← e1] at hw1
              obtain ⟨-, -, -, ⟨co, o1, o2, o3⟩, -⟩ := I_B hI1 hi2
              rw [o3] at hw1
              refine z_callW (As := [.ref (ad 0), .int (nI (q2)), .int (nI (1 + q5))]) (rest := []) (zX_k ea mi sa) hX Z Mz9 (hw1 _) (vx_cwSW 3 hts gL_acts_L_cool rfl rfl rfl (by decide +kernel) ⟨by decide, by decide⟩) rfl hl9.1 (Nat.le_of_ble_eq_true rfl) dL_acts_126 ⟨by show _ ≤ 400; omega, by show _ ≤ 5600; omega⟩ rfl (fun u9 Hp9 lc9 Mz9 => ?_)
              refine lv_istore (lv' := [(10, .int (nI (co))), (9, .int (nI (q2))), (8, .int (nI (q1))), (0, .ref (ad 0)), (1, .ref (av 0)), (2, .ref (av 1)), (3, .ref (av 2)), (4, .ref (av 3)), (5, .ref (av 4)), (6, .int (x9)), (7, .int (y9))]) hx hb dL_acts_129 hl9 (by decide) rfl (fun sl9 hl9 => ?_)
              refine lv_iload hx hb dL_acts_131 (lv_at hl9 0 rfl) ?_
              refine lv_aload_n hx hb dL_acts_133 rfl (lv_at hl9 3 rfl) ?_
              refine lv_iload hx hb dL_acts_134 (lv_at hl9 1 rfl) ?_
              refine lv_iconst (v := 1) hx hb dL_acts_136 (by decide) ?_
              refine z_callW (As := [.ref (ad 0), .int (nI (q2)), .int 1]) (rest := [.int (nI (co))]) (zX_k ea mi sa) hX Z Mz9 (hc_bIs1 hI1 hi2 _) (vx_cwSW 3 hts gL_acts_L_billetIs rfl rfl rfl (by decide +kernel) ⟨by decide, by decide⟩) rfl hl9.1 (Nat.le_of_ble_eq_true rfl) dL_acts_137 ⟨by show _ ≤ 400; omega, by show _ ≤ 5600; omega⟩ rfl (fun u9 Hp9 lc9 Mz9 => ?_)
              refine zn_top (y := nI (co)) (o3) ?_
              refine zn_icmp_ne (a := co) (b := co) (tgt := 197) (by omega) (by omega) hx hb dL_acts_140 (by decide) (fun h => absurd h (fun q => q rfl)) (fun _ => ?_)
              refine lv_aload_n hx hb dL_acts_143 rfl (lv_at hl9 3 rfl) ?_
              refine lv_iload hx hb dL_acts_144 (lv_at hl9 10 rfl) ?_
              refine lv_iconst (v := 5) hx hb dL_acts_146 (by decide) ?_
              refine lv_ishr hx hb dL_acts_147 ?_
              refine lv_iconst (v := 4) hx hb dL_acts_148 (by decide) ?_
              obtain ⟨q6, b6, z6⟩ := ln_low2 l (y9 >>> (5 &&& 31)) 4 (by decide)
              refine z_callSi (As := [.int (y9 >>> (5 &&& 31)), .int 4]) (rest := [.ref (ad 0)]) Z.1 z6 (va_cwS 2 hts gL_acts_L_low rfl rfl rfl (by decide +kernel) ⟨by decide, by decide⟩) rfl hl9.1 (Nat.le_of_ble_eq_true rfl) dL_acts_149 ⟨by show _ ≤ 400; omega, by show _ ≤ 5600; omega⟩ rfl ?_
              refine lv_iconst (v := 3) hx hb dL_acts_152 (by decide) ?_
              refine lv_iload hx hb dL_acts_153 (lv_at hl9 10 rfl) ?_
              refine lv_bipush (v := 7) hx hb dL_acts_155 (by decide) ?_
              refine lv_ishr hx hb dL_acts_157 ?_
              refine lv_bipush (v := 7) hx hb dL_acts_158 (by decide) ?_
              obtain ⟨q7, b7, z7⟩ := ln_low2 l (y9 >>> (7 &&& 31)) 7 (by decide)
              refine z_callSi (As := [.int (y9 >>> (7 &&& 31)), .int 7]) (rest := [.int 3, .int (nI (q6)), .ref (ad 0)]) Z.1 z7 (va_cwS 2 hts gL_acts_L_low rfl rfl rfl (by decide +kernel) ⟨by decide, by decide⟩) rfl hl9.1 (Nat.le_of_ble_eq_true rfl) dL_acts_160 ⟨by show _ ≤ 400; omega, by show _ ≤ 5600; omega⟩ rfl ?_
              refine zn_iadd (a := 3) (b := q7) hx hb dL_acts_163 ?_
              refine lv_bipush (v := 20) hx hb dL_acts_164 (by decide) ?_
              refine lv_iload hx hb dL_acts_166 (lv_at hl9 10 rfl) ?_
              refine lv_bipush (v := 10) hx hb dL_acts_168 (by decide) ?_
              refine lv_ishr hx hb dL_acts_170 ?_
              refine lv_bipush (v := 51) hx hb dL_acts_171 (by decide) ?_
              obtain ⟨q8, b8, z8⟩ := ln_low2 l (y9 >>> (10 &&& 31)) 51 (by decide)
              refine z_callSi (As := [.int (y9 >>> (10 &&& 31)), .int 51]) (rest := [.int 20, .int (nI (3 + q7)), .int (nI (q6)), .ref (ad 0)]) Z.1 z8 (va_cwS 2 hts gL_acts_L_low rfl rfl rfl (by decide +kernel) ⟨by decide, by decide⟩) rfl hl9.1 (Nat.le_of_ble_eq_true rfl) dL_acts_173 ⟨by show _ ≤ 400; omega, by show _ ≤ 5600; omega⟩ rfl ?_
              refine zn_iadd (a := 20) (b := q8) hx hb dL_acts_176 ?_
              refine lv_iload hx hb dL_acts_177 (lv_at hl9 10 rfl) ?_
              refine lv_bipush (v := 16) hx hb dL_acts_179 (by decide) ?_
              refine lv_ishr hx hb dL_acts_181 ?_
              refine lv_bipush (v := 10) hx hb dL_acts_182 (by decide) ?_
              obtain ⟨q9, b9, z9⟩ := ln_low2 l (y9 >>> (16 &&& 31)) 10 (by decide)
              refine z_callSi (As := [.int (y9 >>> (16 &&& 31)), .int 10]) (rest := [.int (nI (20 + q8)), .int (nI (3 + q7)), .int (nI (q6)), .ref (ad 0)]) Z.1 z9 (va_cwS 2 hts gL_acts_L_low rfl rfl rfl (by decide +kernel) ⟨by decide, by decide⟩) rfl hl9.1 (Nat.le_of_ble_eq_true rfl) dL_acts_184 ⟨by show _ ≤ 400; omega, by show _ ≤ 5600; omega⟩ rfl ?_
              obtain ⟨hw2, hI2⟩ := hc_steel (l := l) (D := D) (T := T) (ea := ea) (mi := mi) (sa := sa) hI1 (j := q6) (x := 3 + q7) (y := 20 + q8) (z := q9) (by omega) (by omega) (by omega) (by omega) (by omega) (by omega)
              obtain ⟨ρ2, hρ2⟩ : ∃ q, q = upR ρ1 (2 + q6) (stR (nI (3 + q7)) (nI (20 + q8)) (nI q9)) := ⟨_, rfl⟩
              rw [← hρ2] at hw2 hI2
              refine z_callW (As := [.ref (ad 0), .int (nI (q6)), .int (nI (3 + q7)), .int (nI (20 + q8)), .int (nI (q9))]) (rest := []) (zX_k ea mi sa) hX Z Mz9 (hw2 _) (vx_cwSW 5 hts gL_acts_L_steel rfl rfl rfl (by decide +kernel) ⟨by decide, by decide⟩) rfl hl9.1 (Nat.le_of_ble_eq_true rfl) dL_acts_187 ⟨by show _ ≤ 400; omega, by show _ ≤ 5600; omega⟩ rfl (fun u9 Hp9 lc9 Mz9 => ?_)
              refine lv_if_ne (tgt := 197) hx hb dL_acts_190 (by decide) (fun h => absurd h (by decide)) (fun _ => ?_)
              refine lv_iconst (v := 1) hx hb dL_acts_193 (by decide) ?_
              refine lv_goto (tgt := 198) hx hb dL_acts_194 (by decide) ?_
              exact hret _ _ _ _ _ sl9 _ _ (⟨((J, ad, N, mst, bst, ρ2), ga, ma, aa, ca, ta), ⟨(I_le (Nat.le_succ C) hI2), hGr, rfl⟩⟩) Mz9 rfl (rfl) rfl (by show _ ≤ 400; omega) (by show _ ≤ 5600; omega) dL_acts_198
          ·
            refine lv_aload_n hx hb dL_acts_92 rfl (lv_at hl9 2 rfl) ?_
            refine lv_aload_n hx hb dL_acts_93 rfl (lv_at hl9 3 rfl) ?_
            refine lv_iload hx hb dL_acts_94 (lv_at hl9 0 rfl) ?_
            refine lv_iload hx hb dL_acts_96 (lv_at hl9 8 rfl) ?_
            refine lv_bipush (v := 8) hx hb dL_acts_98 (by decide) ?_
            refine lv_ishr hx hb dL_acts_100 ?_
            refine lv_iload hx hb dL_acts_101 (lv_at hl9 9 rfl) ?_
            refine z_callC (As := [.ref (ad 0), .ref (av 0), .int (nI (q2)), .int (x9 >>> (8 &&& 31)), .int (y9)]) (rest := []) (zX_k ea mi sa) hX Z Mz9 (lm_works hfl hI hGr (show q2 < N 1 by omega) (x9 >>> (8 &&& 31)) y9) (va_cwS 5 hts gL_acts_L_works rfl rfl rfl (by decide +kernel) ⟨by decide, by decide⟩) rfl hl9.1 (Nat.le_of_ble_eq_true rfl) dL_acts_103 ⟨by show _ ≤ 400; omega, by show _ ≤ 5600; omega⟩ rfl (fun u9 Hp9 lc9 Mz9 => ?_)
            exact hret _ _ _ _ _ sl9 _ _ (u9) Mz9 rfl (rfl) rfl (by show _ ≤ 400; omega) (by show _ ≤ 5600; omega) dL_acts_106
        ·
          refine lv_aload_n hx hb dL_acts_74 rfl (lv_at hl9 2 rfl) ?_
          refine lv_aload hx hb dL_acts_75 (lv_at hl9 6 rfl) ?_
          refine lv_iload hx hb dL_acts_77 (lv_at hl9 0 rfl) ?_
          refine lv_iload hx hb dL_acts_79 (lv_at hl9 9 rfl) ?_
          refine z_callC (As := [.ref (ad 0), .ref (av 3), .int (nI (q2)), .int (y9)]) (rest := []) (zX_k ea mi sa) hX Z Mz9 (lm_heats hfl hI hGr (show q2 < N 1 by omega) y9) (va_cwS 4 hts gL_acts_L_heats rfl rfl rfl (by decide +kernel) ⟨by decide, by decide⟩) rfl hl9.1 (Nat.le_of_ble_eq_true rfl) dL_acts_81 ⟨by show _ ≤ 400; omega, by show _ ≤ 5600; omega⟩ rfl (fun u9 Hp9 lc9 Mz9 => ?_)
          exact hret _ _ _ _ _ sl9 _ _ (u9) Mz9 rfl (rfl) rfl (by show _ ≤ 400; omega) (by show _ ≤ 5600; omega) dL_acts_84
      ·
        refine lv_aload_n hx hb dL_acts_43 rfl (lv_at hl9 1 rfl) ?_
        refine lv_aload_n hx hb dL_acts_44 rfl (lv_at hl9 2 rfl) ?_
        refine lv_iload hx hb dL_acts_45 (lv_at hl9 7 rfl) ?_
        refine lv_iconst (v := 4) hx hb dL_acts_47 (by decide) ?_
        refine lv_ishr hx hb dL_acts_48 ?_
        refine lv_iload hx hb dL_acts_49 (lv_at hl9 8 rfl) ?_
        refine z_callC (As := [.ref (ad 0), .ref (av 0), .int (x9 >>> (4 &&& 31)), .int (y9)]) (rest := []) (zX_k ea mi sa) hX Z Mz9 (lm_plans hfl hI hGr (x9 >>> (4 &&& 31)) y9) (va_cwS 4 hts gL_acts_L_plans rfl rfl rfl (by decide +kernel) ⟨by decide, by decide⟩) rfl hl9.1 (Nat.le_of_ble_eq_true rfl) dL_acts_51 ⟨by show _ ≤ 400; omega, by show _ ≤ 5600; omega⟩ rfl (fun u9 Hp9 lc9 Mz9 => ?_)
        exact hret _ _ _ _ _ sl9 _ _ (u9) Mz9 rfl (rfl) rfl (by show _ ≤ 400; omega) (by show _ ≤ 5600; omega) dL_acts_54
    ·
      refine lv_aload_n hx hb dL_acts_21 rfl (lv_at hl9 1 rfl) ?_
      refine lv_aload_n hx hb dL_acts_22 rfl (lv_at hl9 2 rfl) ?_
      refine lv_aload_n hx hb dL_acts_23 rfl (lv_at hl9 3 rfl) ?_
      refine lv_aload_n hx hb dL_acts_24 rfl (lv_at hl9 4 rfl) ?_
      refine lv_aload hx hb dL_acts_25 (lv_at hl9 6 rfl) ?_
      refine lv_iload hx hb dL_acts_27 (lv_at hl9 7 rfl) ?_
      refine lv_iconst (v := 4) hx hb dL_acts_29 (by decide) ?_
      refine lv_ishr hx hb dL_acts_30 ?_
      refine lv_iload hx hb dL_acts_31 (lv_at hl9 8 rfl) ?_
      refine z_callC (As := [.ref (ad 0), .ref (av 0), .ref (av 1), .ref (av 2), .ref (av 4), .int (x9 >>> (4 &&& 31)), .int (y9)]) (rest := []) (zX_k ea mi sa) hX Z Mz9 (lm_makes hfl hI hGr (x9 >>> (4 &&& 31)) y9) (va_cwS 7 hts gL_acts_L_makes rfl rfl rfl (by decide +kernel) ⟨by decide, by decide⟩) rfl hl9.1 (Nat.le_of_ble_eq_true rfl) dL_acts_33 ⟨by show _ ≤ 400; omega, by show _ ≤ 5600; omega⟩ rfl (fun u9 Hp9 lc9 Mz9 => ?_)
      exact hret _ _ _ _ _ sl9 _ _ (u9) Mz9 rfl (rfl) rfl (by show _ ≤ 400; omega) (by show _ ≤ 5600; omega) dL_acts_36
end LAW7
