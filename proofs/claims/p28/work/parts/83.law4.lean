/-! ===== the law's own methods: plans ===== -/
section LAW4
variable {l : Launch} {D : va_G} {T : Nat → ClassId} {ea mi : Nat} {sa : Nat → Nat}
variable {C : Nat} {ad : Nat → Nat} {J : List Nat} {N mst bst : Nat → Nat} {ρ : Nat → Nat → Int32} {ga ma aa ca ta : Nat → Int32} {av : Nat → Nat} {i : Nat}
set_option maxHeartbeats 4000000 in
set_option maxRecDepth 100000 in
theorem lm_plans_u (hfl : l.stackTraces = false) (hI : Inv C J N mst bst ρ aa ca) (hGr : GRc N ga) {P : Nat → Nat} (hP : PLn P (N 4) (ρ 14) (ρ 15)) (hup : ∀ x y, x ≤ y → y < N 4 → P x ≤ P y) (x9 y9 : Int32) : ZIH l yL_plans wsL_plans mR9 (zX ea mi sa) D T (S := {Y : YS // PIc (C + 1) (ad 0) Y}) (lwR T av ga ma aa ca ta ++ iw J ad (hG ad T ea nof N mst bst ρ)) (fun Y => yW T ea av Y.1) [.ref (ad 0), .ref (av 0), .int (x9), .int (y9)] 1 320 4480 := by
  obtain ⟨hg0, hg1, hg2, hg3, hg4⟩ := id hGr
  obtain ⟨j1, j2, j3, j4, j5⟩ := id (I_Q hI)
  have hPb : ∀ q, q < N 4 → 200 ≤ P q ∧ P q ≤ 1300 := fun q hq => (hP.1 q hq).2
  obtain ⟨E9, e91, e92, e93, e94⟩ : ∃ E9, 1 ≤ E9 ∧ N 4 ≤ E9 ∧ (N 4 = 0 → E9 = 1) ∧ (0 < N 4 → E9 = N 4) := by
    by_cases h : N 4 = 0
    · exact ⟨1, by omega, by omega, fun _ => rfl, fun q => by omega⟩
    · exact ⟨N 4, by omega, by omega, fun q => absurd q h, fun _ => rfl⟩
  refine z_inIHC (cc := cL_plans) (maxL := 9) (rt := .boolean) (by decide +kernel) rfl (Nat.le_of_ble_eq_true rfl) ?_
  intro p e s m args below meth c sl9 A Q Z hX Mz9 hl9 hret
  have Z : zC p s m args c cL_plans 9 RL wsL_plans D T A := Z
  have hx := Z.1.1
  have hb := Z.1.2.1
  have hts := Z.1.2.2.2.2
  have hl9 : lv_has sl9 9 [(0, .ref (ad 0)), (1, .ref (av 0)), (2, .int (x9)), (3, .int (y9))] := hl9
  refine lv_iload_n hx hb dL_plans_0 rfl (lv_at hl9 2 rfl) ?_
  refine lv_iconst (v := 4) hx hb dL_plans_1 (by decide) ?_
  obtain ⟨q1, b1, z1⟩ := ln_low2 l x9 4 (by decide)
  refine z_callSi (As := [.int (x9), .int 4]) (rest := []) Z.1 z1 (va_cwS 2 hts gL_plans_L_low rfl rfl rfl (by decide +kernel) ⟨by decide, by decide⟩) rfl hl9.1 (Nat.le_of_ble_eq_true rfl) dL_plans_2 ⟨by show _ ≤ 320; omega, by show _ ≤ 4480; omega⟩ rfl ?_
  refine zn_if_le (a := q1) (tgt := 77) (by omega) hx hb dL_plans_5 (by decide) (fun c_1 => ?_) (fun c_1 => ?_)
  ·
    refine lv_iconst (v := 0) hx hb dL_plans_77 (by decide) ?_
    refine zn_top (y := nI (pS P 1)) (show (0 : Int32) = nI (pS P 1) by rw [pS1]; rfl) ?_
    refine lv_istore (lv' := [(4, .int (nI (pS P 1))), (0, .ref (ad 0)), (1, .ref (av 0)), (2, .int (x9)), (3, .int (y9))]) hx hb dL_plans_78 hl9 (by decide) rfl (fun sl9 hl9 => ?_)
    refine lv_aload_n hx hb dL_plans_80 rfl (lv_at hl9 1 rfl) ?_
    refine lv_aload_n hx hb dL_plans_81 rfl (lv_at hl9 2 rfl) ?_
    refine lv_iconst (v := 4) hx hb dL_plans_82 (by decide) ?_
    refine z_iald Z Mz9 0 (h0 := av 0) (n := 6) (f := ga) rfl (j := 4) (by decide) (by decide) dL_plans_83 ?_
    refine zn_top (y := nI (N 4)) (hg4) ?_
    refine z_callW (As := [.ref (ad 0), .int (nI (N 4))]) (rest := []) (zX_k ea mi sa) hX Z Mz9 (hc_planned_n hI (Nat.le_refl _) (by omega) _) (vx_cwSW 2 hts gL_plans_L_planned rfl rfl rfl (by decide +kernel) ⟨by decide, by decide⟩) rfl hl9.1 (Nat.le_of_ble_eq_true rfl) dL_plans_84 ⟨by show _ ≤ 320; omega, by show _ ≤ 4480; omega⟩ rfl (fun u9 Hp9 lc9 Mz9 => ?_)
    refine lv_iconst (v := (-1)) hx hb dL_plans_87 (by decide) ?_
    refine lv_icmp_ne (tgt := 95) hx hb dL_plans_88 (by decide) (fun h => absurd h (by decide)) (fun _ => ?_)
    refine lv_iconst (v := 1) hx hb dL_plans_91 (by decide) ?_
    refine lv_goto (tgt := 96) hx hb dL_plans_92 (by decide) ?_
    refine lv_istore (lv' := [(5, .int 1), (4, .int (nI (pS P 1))), (0, .ref (ad 0)), (1, .ref (av 0)), (2, .int (x9)), (3, .int (y9))]) hx hb dL_plans_96 hl9 (by decide) rfl (fun sl9 hl9 => ?_)
    refine lv_iconst (v := 1) hx hb dL_plans_98 (by decide) ?_
    refine lv_istore (lv' := [(6, .int 1), (5, .int 1), (4, .int (nI (pS P 1))), (0, .ref (ad 0)), (1, .ref (av 0)), (2, .int (x9)), (3, .int (y9))]) hx hb dL_plans_99 hl9 (by decide) rfl (fun sl9 hl9 => ?_)
    have LP101_1 : ∀ (n101 k : Nat), k + n101 = E9 → 1 ≤ k → ∀ (Hp9 : Heap) (lc9 : List Loc) (sl9 : Array Slot), zM D A s.heap (lwR T av ga ma aa ca ta ++ iw J ad (hG ad T ea nof N mst bst ρ)) Hp9 lc9 → lv_has sl9 9 [(0, .ref (ad 0)), (1, .ref (av 0)), (2, .int (x9)), (3, .int (y9)), (4, .int (nI (pS P k))), (5, .int 1), (6, .int (nI (k)))] → W p l e mR9 s m args below meth c Hp9 lc9 (5 + 20 * k) (70 + 280 * k) Q (F0 m 101 sl9 []) := by
      intro n101
      induction n101 with
      | zero =>
        intro k hk9 h90 Hp9 lc9 sl9 Mz9 hl9
        obtain rfl : E9 = k := by omega
        refine lv_iload hx hb dL_plans_101 (lv_at hl9 6 rfl) ?_
        refine lv_aload_n hx hb dL_plans_103 rfl (lv_at hl9 1 rfl) ?_
        refine lv_iconst (v := 4) hx hb dL_plans_104 (by decide) ?_
        refine z_iald Z Mz9 0 (h0 := av 0) (n := 6) (f := ga) rfl (j := 4) (by decide) (by decide) dL_plans_105 ?_
        refine zn_top (y := nI (N 4)) (hg4) ?_
        refine zn_icmp_ge (a := E9) (b := N 4) (tgt := 197) (by omega) (by omega) hx hb dL_plans_106 (by decide) (fun _ => ?_) (fun h => absurd h (by omega))
        refine lv_aload_n hx hb dL_plans_197 rfl (lv_at hl9 0 rfl) ?_
        by_cases h0 : N 4 = 0
        ·
          have hS0 : pS P E9 = 0 := by rw [e93 h0]; exact pS1 P
          refine z_callO (As := []) (rest := []) (zX_k ea mi sa) hX Z Mz9 (hc_run0 hI h0 _) (cwV 0 hts gL_plans_X5_run rfl rfl rfl (by decide +kernel) ⟨by decide, by decide⟩) (va_recv Z.2.1 Mz9.1 (ci := 6) (q0 := 5 + J.idxOf 0) rfl (rcv ((hI.1.2.1 0).mpr (Or.inl (by decide))))) rfl hl9.1 (Nat.le_of_ble_eq_true rfl) dL_plans_198 ⟨by show _ ≤ 320; omega, by show _ ≤ 4480; omega⟩ rfl (fun u9 Hp9 lc9 Mz9 => ?_)
          refine lv_istore (lv' := [(6, .int 0), (0, .ref (ad 0)), (1, .ref (av 0)), (2, .int (x9)), (3, .int (y9)), (4, .int (nI (pS P E9))), (5, .int 1)]) hx hb dL_plans_201 hl9 (by decide) rfl (fun sl9 hl9 => ?_)
          refine lv_aload_n hx hb dL_plans_203 rfl (lv_at hl9 2 rfl) ?_
          refine lv_iconst (v := 4) hx hb dL_plans_204 (by decide) ?_
          refine lv_iconst (v := 0) hx hb dL_plans_205 (by decide) ?_
          refine z_iast Z Mz9 0 (h0 := av 0) (n := 6) (f := ga) rfl (j := 4) (x := 0) (by decide) (by decide) (ws' := lwR T av (upd ga 4 0) ma aa ca ta ++ iw J ad (hG ad T ea nof N mst bst ρ)) rfl dL_plans_206 (fun Hp9 lc9 Mz9 => ?_)
          refine lv_iload hx hb dL_plans_207 (lv_at hl9 6 rfl) ?_
          refine lv_if_eq (tgt := 250) hx hb dL_plans_209 (by decide) (fun h => absurd h (by decide)) (fun _ => ?_)
          refine lv_iload hx hb dL_plans_212 (lv_at hl9 0 rfl) ?_
          refine lv_iload hx hb dL_plans_214 (lv_at hl9 5 rfl) ?_
          refine zn_icmp_lt (a := 0) (b := pS P E9) (tgt := 250) (by omega) (by omega) hx hb dL_plans_216 (by decide) (fun h => absurd h (by omega)) (fun _ => ?_)
          refine lv_iload hx hb dL_plans_219 (lv_at hl9 0 rfl) ?_
          refine lv_iload hx hb dL_plans_221 (lv_at hl9 5 rfl) ?_
          refine lv_sipush (v := 1100) hx hb dL_plans_223 (by decide) ?_
          refine zn_iadd (a := pS P E9) (b := 1100) hx hb dL_plans_226 ?_
          refine zn_icmp_gt (a := 0) (b := (pS P E9) + 1100) (tgt := 250) (by omega) (by omega) hx hb dL_plans_227 (by decide) (fun h => absurd h (by omega)) (fun _ => ?_)
          refine lv_aload_n hx hb dL_plans_230 rfl (lv_at hl9 1 rfl) ?_
          refine lv_iconst (v := 0) hx hb dL_plans_231 (by decide) ?_
          refine z_callW (As := [.ref (ad 0), .int 0]) (rest := []) (zX_k ea mi sa) hX Z Mz9 (hc_planned_n hI (q := 0) (by omega) (by decide) _) (vx_cwSW 2 hts gL_plans_L_planned rfl rfl rfl (by decide +kernel) ⟨by decide, by decide⟩) rfl hl9.1 (Nat.le_of_ble_eq_true rfl) dL_plans_232 ⟨by show _ ≤ 320; omega, by show _ ≤ 4480; omega⟩ rfl (fun u9 Hp9 lc9 Mz9 => ?_)
          refine lv_iconst (v := (-1)) hx hb dL_plans_235 (by decide) ?_
          refine lv_icmp_ne (tgt := 250) hx hb dL_plans_236 (by decide) (fun h => absurd h (by decide)) (fun _ => ?_)
          refine lv_aload_n hx hb dL_plans_239 rfl (lv_at hl9 1 rfl) ?_
          refine z_callO (As := []) (rest := []) (zX_k ea mi sa) hX Z Mz9 (hc_run0 hI h0 _) (cwV 0 hts gL_plans_X5_run rfl rfl rfl (by decide +kernel) ⟨by decide, by decide⟩) (va_recv Z.2.1 Mz9.1 (ci := 6) (q0 := 5 + J.idxOf 0) rfl (rcv ((hI.1.2.1 0).mpr (Or.inl (by decide))))) rfl hl9.1 (Nat.le_of_ble_eq_true rfl) dL_plans_240 ⟨by show _ ≤ 320; omega, by show _ ≤ 4480; omega⟩ rfl (fun u9 Hp9 lc9 Mz9 => ?_)
          refine lv_if_ne (tgt := 250) hx hb dL_plans_243 (by decide) (fun h => absurd h (by decide)) (fun _ => ?_)
          refine lv_iconst (v := 1) hx hb dL_plans_246 (by decide) ?_
          refine lv_goto (tgt := 251) hx hb dL_plans_247 (by decide) ?_
          exact hret _ _ _ _ _ sl9 _ _ (⟨((J, ad, N, mst, bst, ρ), upd ga 4 0, ma, aa, ca, ta), ⟨(I_le (Nat.le_succ C) hI), (GR_4 hGr h0), rfl⟩⟩) Mz9 rfl (rfl) rfl (by show _ ≤ 320; omega) (by show _ ≤ 4480; omega) dL_plans_251
        ·
          obtain ⟨F, ⟨F1, F2⟩, hw1, hI1⟩ := hc_run (l := l) (D := D) (T := T) (ea := ea) (mi := mi) (sa := sa) hI hP (Nat.pos_of_ne_zero h0)
          obtain ⟨ρ1, hρ1⟩ : ∃ q, q = upR ρ 14 (upd (upd (ρ 14) 0 0) 1 (nI (P (N 4 - 1)))) := ⟨_, rfl⟩
          rw [← hρ1] at hw1 hI1
          have hE := e94 (Nat.pos_of_ne_zero h0)
          have hS : pS P E9 = (P (N 4 - 1) - P 0) + (P 0 - P (N 4 - 1)) := by rw [hE]; rfl
          have hb0 := hPb 0 (by omega)
          have hbn := hPb (N 4 - 1) (by omega)
          refine z_callO (As := []) (rest := []) (zX_k ea mi sa) hX Z Mz9 (hw1 _) (cwV 0 hts gL_plans_X5_run rfl rfl rfl (by decide +kernel) ⟨by decide, by decide⟩) (va_recv Z.2.1 Mz9.1 (ci := 6) (q0 := 5 + J.idxOf 0) rfl (rcv ((hI.1.2.1 0).mpr (Or.inl (by decide))))) rfl hl9.1 (Nat.le_of_ble_eq_true rfl) dL_plans_198 ⟨by show _ ≤ 320; omega, by show _ ≤ 4480; omega⟩ rfl (fun u9 Hp9 lc9 Mz9 => ?_)
          refine lv_istore (lv' := [(6, .int (nI ((P 0 - F) + (F - P 0) + ((P (N 4 - 1) - P 0) + (P 0 - P (N 4 - 1)))))), (0, .ref (ad 0)), (1, .ref (av 0)), (2, .int (x9)), (3, .int (y9)), (4, .int (nI (pS P E9))), (5, .int 1)]) hx hb dL_plans_201 hl9 (by decide) rfl (fun sl9 hl9 => ?_)
          refine lv_aload_n hx hb dL_plans_203 rfl (lv_at hl9 2 rfl) ?_
          refine lv_iconst (v := 4) hx hb dL_plans_204 (by decide) ?_
          refine lv_iconst (v := 0) hx hb dL_plans_205 (by decide) ?_
          refine z_iast Z Mz9 0 (h0 := av 0) (n := 6) (f := ga) rfl (j := 4) (x := 0) (by decide) (by decide) (ws' := lwR T av (upd ga 4 0) ma aa ca ta ++ iw J ad (hG ad T ea nof (N4 N 0) mst bst ρ1)) rfl dL_plans_206 (fun Hp9 lc9 Mz9 => ?_)
          refine lv_iload hx hb dL_plans_207 (lv_at hl9 6 rfl) ?_
          refine lv_if_eq (tgt := 250) hx hb dL_plans_209 (by decide) (fun h => absurd h (by decide)) (fun _ => ?_)
          refine lv_iload hx hb dL_plans_212 (lv_at hl9 0 rfl) ?_
          refine lv_iload hx hb dL_plans_214 (lv_at hl9 5 rfl) ?_
          refine zn_icmp_lt (a := (P 0 - F) + (F - P 0) + ((P (N 4 - 1) - P 0) + (P 0 - P (N 4 - 1)))) (b := pS P E9) (tgt := 250) (by omega) (by omega) hx hb dL_plans_216 (by decide) (fun h => absurd h (by omega)) (fun _ => ?_)
          refine lv_iload hx hb dL_plans_219 (lv_at hl9 0 rfl) ?_
          refine lv_iload hx hb dL_plans_221 (lv_at hl9 5 rfl) ?_
          refine lv_sipush (v := 1100) hx hb dL_plans_223 (by decide) ?_
          refine zn_iadd (a := pS P E9) (b := 1100) hx hb dL_plans_226 ?_
          refine zn_icmp_gt (a := (P 0 - F) + (F - P 0) + ((P (N 4 - 1) - P 0) + (P 0 - P (N 4 - 1)))) (b := (pS P E9) + 1100) (tgt := 250) (by omega) (by omega) hx hb dL_plans_227 (by decide) (fun h => absurd h (by omega)) (fun _ => ?_)
          refine lv_aload_n hx hb dL_plans_230 rfl (lv_at hl9 1 rfl) ?_
          refine lv_iconst (v := 0) hx hb dL_plans_231 (by decide) ?_
          refine z_callW (As := [.ref (ad 0), .int 0]) (rest := []) (zX_k ea mi sa) hX Z Mz9 (hc_planned_n hI1 (q := 0) (Nat.le_refl 0) (by decide) _) (vx_cwSW 2 hts gL_plans_L_planned rfl rfl rfl (by decide +kernel) ⟨by decide, by decide⟩) rfl hl9.1 (Nat.le_of_ble_eq_true rfl) dL_plans_232 ⟨by show _ ≤ 320; omega, by show _ ≤ 4480; omega⟩ rfl (fun u9 Hp9 lc9 Mz9 => ?_)
          refine lv_iconst (v := (-1)) hx hb dL_plans_235 (by decide) ?_
          refine lv_icmp_ne (tgt := 250) hx hb dL_plans_236 (by decide) (fun h => absurd h (by decide)) (fun _ => ?_)
          refine lv_aload_n hx hb dL_plans_239 rfl (lv_at hl9 1 rfl) ?_
          refine z_callO (As := []) (rest := []) (zX_k ea mi sa) hX Z Mz9 (hc_run0 hI1 rfl _) (cwV 0 hts gL_plans_X5_run rfl rfl rfl (by decide +kernel) ⟨by decide, by decide⟩) (va_recv Z.2.1 Mz9.1 (ci := 6) (q0 := 5 + J.idxOf 0) rfl (rcv ((hI.1.2.1 0).mpr (Or.inl (by decide))))) rfl hl9.1 (Nat.le_of_ble_eq_true rfl) dL_plans_240 ⟨by show _ ≤ 320; omega, by show _ ≤ 4480; omega⟩ rfl (fun u9 Hp9 lc9 Mz9 => ?_)
          refine lv_if_ne (tgt := 250) hx hb dL_plans_243 (by decide) (fun h => absurd h (by decide)) (fun _ => ?_)
          refine lv_iconst (v := 1) hx hb dL_plans_246 (by decide) ?_
          refine lv_goto (tgt := 251) hx hb dL_plans_247 (by decide) ?_
          exact hret _ _ _ _ _ sl9 _ _ (⟨((J, ad, N4 N 0, mst, bst, ρ1), upd ga 4 0, ma, aa, ca, ta), ⟨(I_le (Nat.le_succ C) hI1), (GR_j hGr 0), rfl⟩⟩) Mz9 rfl (rfl) rfl (by show _ ≤ 320; omega) (by show _ ≤ 4480; omega) dL_plans_251
      | succ n101 ih101 =>
        intro k hk9 h90 Hp9 lc9 sl9 Mz9 hl9
        have hk0 : 0 < N 4 := Nat.pos_of_ne_zero (fun q => by have := e93 q; omega)
        have hkE := e94 hk0
        have hbk := hPb k (by omega)
        have hbk1 := hPb (k - 1) (by omega)
        have hb0 := hPb 0 (by omega)
        have hbn := hPb (N 4 - 1) (by omega)
        have hu1 := hup (k - 1) k (by omega) (by omega)
        have hu2 := hup 0 (N 4 - 1) (by omega) (by omega)
        refine lv_iload hx hb dL_plans_101 (lv_at hl9 6 rfl) ?_
        refine lv_aload_n hx hb dL_plans_103 rfl (lv_at hl9 1 rfl) ?_
        refine lv_iconst (v := 4) hx hb dL_plans_104 (by decide) ?_
        refine z_iald Z Mz9 0 (h0 := av 0) (n := 6) (f := ga) rfl (j := 4) (by decide) (by decide) dL_plans_105 ?_
        refine zn_top (y := nI (N 4)) (hg4) ?_
        refine zn_icmp_ge (a := k) (b := N 4) (tgt := 197) (by omega) (by omega) hx hb dL_plans_106 (by decide) (fun h => absurd h (by omega)) (fun _ => ?_)
        refine lv_aload_n hx hb dL_plans_109 rfl (lv_at hl9 0 rfl) ?_
        refine lv_iload hx hb dL_plans_110 (lv_at hl9 6 rfl) ?_
        refine z_callW (As := [.ref (ad 0), .int (nI (k))]) (rest := []) (zX_k ea mi sa) hX Z Mz9 (hc_planned hI hP (q := k) (by omega) _) (vx_cwSW 2 hts gL_plans_L_planned rfl rfl rfl (by decide +kernel) ⟨by decide, by decide⟩) rfl hl9.1 (Nat.le_of_ble_eq_true rfl) dL_plans_112 ⟨by show _ ≤ 320; omega, by show _ ≤ 4480; omega⟩ rfl (fun u9 Hp9 lc9 Mz9 => ?_)
        refine lv_aload_n hx hb dL_plans_115 rfl (lv_at hl9 0 rfl) ?_
        refine lv_iload hx hb dL_plans_116 (lv_at hl9 6 rfl) ?_
        refine lv_iconst (v := 1) hx hb dL_plans_118 (by decide) ?_
        refine zn_isub (a := k) (b := 1) (by omega) hx hb dL_plans_119 ?_
        refine z_callW (As := [.ref (ad 0), .int (nI (k - 1))]) (rest := [.int (nI (P k))]) (zX_k ea mi sa) hX Z Mz9 (hc_planned hI hP (q := k - 1) (by omega) _) (vx_cwSW 2 hts gL_plans_L_planned rfl rfl rfl (by decide +kernel) ⟨by decide, by decide⟩) rfl hl9.1 (Nat.le_of_ble_eq_true rfl) dL_plans_120 ⟨by show _ ≤ 320; omega, by show _ ≤ 4480; omega⟩ rfl (fun u9 Hp9 lc9 Mz9 => ?_)
        refine zn_isub (a := P k) (b := P (k - 1)) (by omega) hx hb dL_plans_123 ?_
        refine lv_istore (lv' := [(7, .int (nI ((P k) - (P (k - 1))))), (0, .ref (ad 0)), (1, .ref (av 0)), (2, .int (x9)), (3, .int (y9)), (4, .int (nI (pS P k))), (5, .int 1), (6, .int (nI (k)))]) hx hb dL_plans_124 hl9 (by decide) rfl (fun sl9 hl9 => ?_)
        refine lv_aload_n hx hb dL_plans_126 rfl (lv_at hl9 1 rfl) ?_
        refine lv_aload_n hx hb dL_plans_127 rfl (lv_at hl9 2 rfl) ?_
        refine lv_iconst (v := 4) hx hb dL_plans_128 (by decide) ?_
        refine z_iald Z Mz9 0 (h0 := av 0) (n := 6) (f := ga) rfl (j := 4) (by decide) (by decide) dL_plans_129 ?_
        refine zn_top (y := nI (N 4)) (hg4) ?_
        refine lv_iconst (v := 1) hx hb dL_plans_130 (by decide) ?_
        refine zn_isub (a := N 4) (b := 1) (by omega) hx hb dL_plans_131 ?_
        refine z_callW (As := [.ref (ad 0), .int (nI ((N 4) - 1))]) (rest := []) (zX_k ea mi sa) hX Z Mz9 (hc_planned hI hP (q := (N 4) - 1) (by omega) _) (vx_cwSW 2 hts gL_plans_L_planned rfl rfl rfl (by decide +kernel) ⟨by decide, by decide⟩) rfl hl9.1 (Nat.le_of_ble_eq_true rfl) dL_plans_132 ⟨by show _ ≤ 320; omega, by show _ ≤ 4480; omega⟩ rfl (fun u9 Hp9 lc9 Mz9 => ?_)
        refine lv_aload_n hx hb dL_plans_135 rfl (lv_at hl9 1 rfl) ?_
        refine lv_iconst (v := 0) hx hb dL_plans_136 (by decide) ?_
        refine z_callW (As := [.ref (ad 0), .int 0]) (rest := [.int (nI (P ((N 4) - 1)))]) (zX_k ea mi sa) hX Z Mz9 (hc_planned hI hP (q := 0) (by omega) _) (vx_cwSW 2 hts gL_plans_L_planned rfl rfl rfl (by decide +kernel) ⟨by decide, by decide⟩) rfl hl9.1 (Nat.le_of_ble_eq_true rfl) dL_plans_137 ⟨by show _ ≤ 320; omega, by show _ ≤ 4480; omega⟩ rfl (fun u9 Hp9 lc9 Mz9 => ?_)
        refine zn_isub (a := P ((N 4) - 1)) (b := P 0) (by omega) hx hb dL_plans_140 ?_
        refine lv_istore (lv' := [(8, .int (nI ((P ((N 4) - 1)) - (P 0)))), (7, .int (nI ((P k) - (P (k - 1))))), (0, .ref (ad 0)), (1, .ref (av 0)), (2, .int (x9)), (3, .int (y9)), (4, .int (nI (pS P k))), (5, .int 1), (6, .int (nI (k)))]) hx hb dL_plans_141 hl9 (by decide) rfl (fun sl9 hl9 => ?_)
        refine lv_iload hx hb dL_plans_143 (lv_at hl9 6 rfl) ?_
        refine lv_iload hx hb dL_plans_145 (lv_at hl9 1 rfl) ?_
        refine lv_if_ge (tgt := 156) hx hb dL_plans_147 (by decide) (fun _ => ?_) (fun h => absurd h (fun q => q ((nI_leI (a := 0) (by decide) (by omega)).mpr (Nat.zero_le _))))
        refine lv_iload hx hb dL_plans_156 (lv_at hl9 1 rfl) ?_
        refine zn_iadd (a := pS P k) (b := (P k) - (P (k - 1))) hx hb dL_plans_158 ?_
        refine zn_top (y := nI (pS P (k + 1))) (congrArg nI (show (pS P k) + ((P k) - (P (k - 1))) = pS P (k + 1) by have h8 := hup (k - 1) k (by omega) (by omega); have h7 := hup 0 (k - 1) (by omega) (by omega); unfold pS; rw [Nat.add_sub_cancel]; omega)) ?_
        refine lv_istore (lv' := [(4, .int (nI (pS P (k + 1)))), (8, .int (nI ((P ((N 4) - 1)) - (P 0)))), (7, .int (nI ((P k) - (P (k - 1))))), (0, .ref (ad 0)), (1, .ref (av 0)), (2, .int (x9)), (3, .int (y9)), (5, .int 1), (6, .int (nI (k)))]) hx hb dL_plans_159 hl9 (by decide) rfl (fun sl9 hl9 => ?_)
        refine lv_iload hx hb dL_plans_161 (lv_at hl9 7 rfl) ?_
        refine lv_if_eq (tgt := 188) hx hb dL_plans_163 (by decide) (fun h => absurd h (by decide)) (fun _ => ?_)
        refine lv_iload hx hb dL_plans_166 (lv_at hl9 1 rfl) ?_
        refine lv_if_ge (tgt := 179) hx hb dL_plans_168 (by decide) (fun _ => ?_) (fun h => absurd h (fun q => q ((nI_leI (a := 0) (by decide) (by omega)).mpr (Nat.zero_le _))))
        refine lv_iload hx hb dL_plans_179 (lv_at hl9 2 rfl) ?_
        refine zn_if_lt (a := (P k) - (P (k - 1))) (tgt := 188) (by omega) hx hb dL_plans_181 (by decide) (fun h => absurd h (fun q => q)) (fun _ => ?_)
        refine lv_iconst (v := 1) hx hb dL_plans_184 (by decide) ?_
        refine lv_goto (tgt := 189) hx hb dL_plans_185 (by decide) ?_
        refine lv_istore (lv' := [(5, .int 1), (4, .int (nI (pS P (k + 1)))), (8, .int (nI ((P ((N 4) - 1)) - (P 0)))), (7, .int (nI ((P k) - (P (k - 1))))), (0, .ref (ad 0)), (1, .ref (av 0)), (2, .int (x9)), (3, .int (y9)), (6, .int (nI (k)))]) hx hb dL_plans_189 hl9 (by decide) rfl (fun sl9 hl9 => ?_)
        refine lv_iinc (v := nI (k + 1)) (lv' := [(6, .int (nI (k + 1))), (5, .int 1), (4, .int (nI (pS P (k + 1)))), (8, .int (nI ((P ((N 4) - 1)) - (P 0)))), (7, .int (nI ((P k) - (P (k - 1))))), (0, .ref (ad 0)), (1, .ref (av 0)), (2, .int (x9)), (3, .int (y9))]) hx hb dL_plans_191 hl9 (k := 8) rfl (nI_add (k) 1) (by decide) rfl (fun sl9 hl9 => ?_)
        refine lv_goto (tgt := 101) hx hb dL_plans_194 (by decide) ?_
        refine W.widen (show _ ≤ 5 + 20 * (k + 1) by omega) (show _ ≤ 70 + 280 * (k + 1) by omega) ?_
        exact ih101 (k + 1) (by omega) (by omega) _ _ _ Mz9 (lv_sub hl9 [5, 6, 7, 8, 2, 1, 0] rfl)
    refine W.widen (show _ ≤ 5 + 20 * 1 by omega) (show _ ≤ 70 + 280 * 1 by omega) ?_
    exact LP101_1 (E9 - 1) (1) (by omega) (Nat.le_refl 1) _ _ _ Mz9 (lv_sub hl9 [3, 4, 5, 6, 2, 1, 0] rfl)
  ·
    refine lv_sipush (v := 200) hx hb dL_plans_8 (by decide) ?_
    refine lv_iload_n hx hb dL_plans_11 rfl (lv_at hl9 3 rfl) ?_
    refine lv_sipush (v := 1101) hx hb dL_plans_12 (by decide) ?_
    obtain ⟨q2, b2, z2⟩ := ln_low2 l y9 1101 (by decide)
    refine z_callSi (As := [.int (y9), .int 1101]) (rest := [.int 200]) Z.1 z2 (va_cwS 2 hts gL_plans_L_low rfl rfl rfl (by decide +kernel) ⟨by decide, by decide⟩) rfl hl9.1 (Nat.le_of_ble_eq_true rfl) dL_plans_15 ⟨by show _ ≤ 320; omega, by show _ ≤ 4480; omega⟩ rfl ?_
    refine zn_iadd (a := 200) (b := q2) hx hb dL_plans_18 ?_
    refine lv_istore (lv' := [(4, .int (nI (200 + q2))), (0, .ref (ad 0)), (1, .ref (av 0)), (2, .int (x9)), (3, .int (y9))]) hx hb dL_plans_19 hl9 (by decide) rfl (fun sl9 hl9 => ?_)
    refine lv_aload_n hx hb dL_plans_21 rfl (lv_at hl9 1 rfl) ?_
    refine lv_iload hx hb dL_plans_22 (lv_at hl9 0 rfl) ?_
    by_cases hj : N 4 < 12
    ·
      obtain ⟨hw1, hI1⟩ := hc_job (l := l) (D := D) (T := T) (ea := ea) (mi := mi) (sa := sa) hI (w := 200 + q2) (by omega) (by omega) hj
      obtain ⟨ρ1, hρ1⟩ : ∃ q, q = upR (upR ρ 14 (upd (ρ 14) 0 (nI (N 4 + 1)))) 15 (ins (ρ 15) (nI (200 + q2)) (N 4)) := ⟨_, rfl⟩
      rw [← hρ1] at hw1 hI1
      refine z_callW (As := [.ref (ad 0), .int (nI (200 + q2))]) (rest := []) (zX_k ea mi sa) hX Z Mz9 (hw1 _) (vx_cwSW 2 hts gL_plans_L_job rfl rfl rfl (by decide +kernel) ⟨by decide, by decide⟩) rfl hl9.1 (Nat.le_of_ble_eq_true rfl) dL_plans_24 ⟨by show _ ≤ 320; omega, by show _ ≤ 4480; omega⟩ rfl (fun u9 Hp9 lc9 Mz9 => ?_)
      refine lv_istore (lv' := [(5, .int (nI (N 4 + 1))), (4, .int (nI (200 + q2))), (0, .ref (ad 0)), (1, .ref (av 0)), (2, .int (x9)), (3, .int (y9))]) hx hb dL_plans_27 hl9 (by decide) rfl (fun sl9 hl9 => ?_)
      refine lv_aload_n hx hb dL_plans_29 rfl (lv_at hl9 3 rfl) ?_
      refine lv_iconst (v := 4) hx hb dL_plans_30 (by decide) ?_
      refine lv_dup2_11 hx hb dL_plans_31 rfl rfl ?_
      refine z_iald Z Mz9 0 (h0 := av 0) (n := 6) (f := ga) rfl (j := 4) (by decide) (by decide) dL_plans_32 ?_
      refine zn_top (y := nI (N 4)) (hg4) ?_
      refine lv_aload_n hx hb dL_plans_33 rfl (lv_at hl9 3 rfl) ?_
      refine lv_iconst (v := 4) hx hb dL_plans_34 (by decide) ?_
      refine z_iald Z Mz9 0 (h0 := av 0) (n := 6) (f := ga) rfl (j := 4) (by decide) (by decide) dL_plans_35 ?_
      refine zn_top (y := nI (N 4)) (hg4) ?_
      refine lv_bipush (v := 12) hx hb dL_plans_36 (by decide) ?_
      refine zn_icmp_ge (a := N 4) (b := 12) (tgt := 45) (by omega) (by decide) hx hb dL_plans_38 (by decide) (fun h => absurd h (by omega)) (fun _ => ?_)
      refine lv_iconst (v := 1) hx hb dL_plans_41 (by decide) ?_
      refine lv_goto (tgt := 46) hx hb dL_plans_42 (by decide) ?_
      refine zn_iadd (a := N 4) (b := 1) hx hb dL_plans_46 ?_
      refine z_iast Z Mz9 0 (h0 := av 0) (n := 6) (f := ga) rfl (j := 4) (x := nI ((N 4) + 1)) (by decide) (by decide) (ws' := lwR T av (upd ga 4 (nI ((N 4) + 1))) ma aa ca ta ++ iw J ad (hG ad T ea nof (N4 N (N 4 + 1)) mst bst ρ1)) rfl dL_plans_47 (fun Hp9 lc9 Mz9 => ?_)
      refine lv_iload hx hb dL_plans_48 (lv_at hl9 0 rfl) ?_
      refine lv_aload_n hx hb dL_plans_50 rfl (lv_at hl9 3 rfl) ?_
      refine lv_iconst (v := 4) hx hb dL_plans_51 (by decide) ?_
      refine z_iald Z Mz9 0 (h0 := av 0) (n := 6) (f := upd ga 4 (nI ((N 4) + 1))) rfl (j := 4) (by decide) (by decide) dL_plans_52 ?_
      refine zn_top (y := nI (N 4 + 1)) (upd_same _ _ _) ?_
      refine zn_icmp_eq (a := N 4 + 1) (b := N 4 + 1) (tgt := 71) (by omega) (by omega) hx hb dL_plans_53 (by decide) (fun _ => ?_) (fun h => absurd h (fun q => q rfl))
      refine lv_iconst (v := 1) hx hb dL_plans_71 (by decide) ?_
      refine lv_goto (tgt := 76) hx hb dL_plans_72 (by decide) ?_
      exact hret _ _ _ _ _ sl9 _ _ (⟨((J, ad, N4 N (N 4 + 1), mst, bst, ρ1), upd ga 4 (nI ((N 4) + 1)), ma, aa, ca, ta), ⟨(I_le (Nat.le_succ C) hI1), (GR_j hGr (N 4 + 1)), rfl⟩⟩) Mz9 rfl (rfl) rfl (by show _ ≤ 320; omega) (by show _ ≤ 4480; omega) dL_plans_76
    ·
      have hw1 := hc_job_w (l := l) (D := D) (T := T) (ea := ea) (mi := mi) (sa := sa) (ad := ad) (J := J) (N := N) (mst := mst) (bst := bst) (ρ := ρ) hfl hI (w := 200 + q2) (by omega) (by omega) (by omega)
      refine z_callW (As := [.ref (ad 0), .int (nI (200 + q2))]) (rest := []) (zX_k ea mi sa) hX Z Mz9 (hw1 _) (vx_cwSW 2 hts gL_plans_L_job rfl rfl rfl (by decide +kernel) ⟨by decide, by decide⟩) rfl hl9.1 (Nat.le_of_ble_eq_true rfl) dL_plans_24 ⟨by show _ ≤ 320; omega, by show _ ≤ 4480; omega⟩ rfl (fun u9 Hp9 lc9 Mz9 => ?_)
      refine lv_istore (lv' := [(5, .int (-1000003)), (4, .int (nI (200 + q2))), (0, .ref (ad 0)), (1, .ref (av 0)), (2, .int (x9)), (3, .int (y9))]) hx hb dL_plans_27 hl9 (by decide) rfl (fun sl9 hl9 => ?_)
      refine lv_aload_n hx hb dL_plans_29 rfl (lv_at hl9 3 rfl) ?_
      refine lv_iconst (v := 4) hx hb dL_plans_30 (by decide) ?_
      refine lv_dup2_11 hx hb dL_plans_31 rfl rfl ?_
      refine z_iald Z Mz9 0 (h0 := av 0) (n := 6) (f := ga) rfl (j := 4) (by decide) (by decide) dL_plans_32 ?_
      refine zn_top (y := nI (N 4)) (hg4) ?_
      refine lv_aload_n hx hb dL_plans_33 rfl (lv_at hl9 3 rfl) ?_
      refine lv_iconst (v := 4) hx hb dL_plans_34 (by decide) ?_
      refine z_iald Z Mz9 0 (h0 := av 0) (n := 6) (f := ga) rfl (j := 4) (by decide) (by decide) dL_plans_35 ?_
      refine zn_top (y := nI (N 4)) (hg4) ?_
      refine lv_bipush (v := 12) hx hb dL_plans_36 (by decide) ?_
      refine zn_icmp_ge (a := N 4) (b := 12) (tgt := 45) (by omega) (by decide) hx hb dL_plans_38 (by decide) (fun _ => ?_) (fun h => absurd h (by omega))
      refine lv_iconst (v := 0) hx hb dL_plans_45 (by decide) ?_
      refine zn_iadd (a := N 4) (b := 0) hx hb dL_plans_46 ?_
      refine z_iast Z Mz9 0 (h0 := av 0) (n := 6) (f := ga) rfl (j := 4) (x := nI ((N 4) + 0)) (by decide) (by decide) (ws' := lwR T av (upd ga 4 (nI ((N 4) + 0))) ma aa ca ta ++ iw J ad (hG ad T ea nof N mst bst ρ)) rfl dL_plans_47 (fun Hp9 lc9 Mz9 => ?_)
      refine lv_iload hx hb dL_plans_48 (lv_at hl9 0 rfl) ?_
      refine lv_aload_n hx hb dL_plans_50 rfl (lv_at hl9 3 rfl) ?_
      refine lv_iconst (v := 4) hx hb dL_plans_51 (by decide) ?_
      refine z_iald Z Mz9 0 (h0 := av 0) (n := 6) (f := upd ga 4 (nI ((N 4) + 0))) rfl (j := 4) (by decide) (by decide) dL_plans_52 ?_
      refine zn_top (y := nI (N 4 + 0)) (upd_same _ _ _) ?_
      refine lv_icmp_eq (tgt := 71) hx hb dL_plans_53 (by decide) (fun h => absurd h (fun q => nn3 (by omega) q.symm)) (fun _ => ?_)
      refine lv_iload hx hb dL_plans_56 (lv_at hl9 0 rfl) ?_
      refine lv_ldc (v := (-1000003)) hx hb Z.1.2.2.2.1 (hts (.constant RL 28 (-1000003)) (by decide +kernel)) dL_plans_58 ?_
      refine lv_icmp_ne (tgt := 75) hx hb dL_plans_60 (by decide) (fun h => absurd h (by decide)) (fun _ => ?_)
      refine lv_aload_n hx hb dL_plans_63 rfl (lv_at hl9 3 rfl) ?_
      refine lv_iconst (v := 4) hx hb dL_plans_64 (by decide) ?_
      refine z_iald Z Mz9 0 (h0 := av 0) (n := 6) (f := upd ga 4 (nI ((N 4) + 0))) rfl (j := 4) (by decide) (by decide) dL_plans_65 ?_
      refine zn_top (y := nI (N 4 + 0)) (upd_same _ _ _) ?_
      refine lv_bipush (v := 12) hx hb dL_plans_66 (by decide) ?_
      refine zn_icmp_ne (a := N 4 + 0) (b := 12) (tgt := 75) (by omega) (by decide) hx hb dL_plans_68 (by decide) (fun h => absurd h (fun q => q (by omega))) (fun _ => ?_)
      refine lv_iconst (v := 1) hx hb dL_plans_71 (by decide) ?_
      refine lv_goto (tgt := 76) hx hb dL_plans_72 (by decide) ?_
      exact hret _ _ _ _ _ sl9 _ _ (⟨((J, ad, N, mst, bst, ρ), upd ga 4 (nI ((N 4) + 0)), ma, aa, ca, ta), ⟨(I_le (Nat.le_succ C) hI), (GR_4 hGr rfl), rfl⟩⟩) Mz9 rfl (rfl) rfl (by show _ ≤ 320; omega) (by show _ ≤ 4480; omega) dL_plans_76
set_option maxHeartbeats 4000000 in
set_option maxRecDepth 100000 in
theorem lm_plans_d (hfl : l.stackTraces = false) (hI : Inv C J N mst bst ρ aa ca) (hGr : GRc N ga) {P : Nat → Nat} (hP : PLn P (N 4) (ρ 14) (ρ 15)) (hdn : ∀ x y, x ≤ y → y < N 4 → P y ≤ P x) (x9 y9 : Int32) : ZIH l yL_plans wsL_plans mR9 (zX ea mi sa) D T (S := {Y : YS // PIc (C + 1) (ad 0) Y}) (lwR T av ga ma aa ca ta ++ iw J ad (hG ad T ea nof N mst bst ρ)) (fun Y => yW T ea av Y.1) [.ref (ad 0), .ref (av 0), .int (x9), .int (y9)] 1 320 4480 := by
  obtain ⟨hg0, hg1, hg2, hg3, hg4⟩ := id hGr
  obtain ⟨j1, j2, j3, j4, j5⟩ := id (I_Q hI)
  have hPb : ∀ q, q < N 4 → 200 ≤ P q ∧ P q ≤ 1300 := fun q hq => (hP.1 q hq).2
  obtain ⟨E9, e91, e92, e93, e94⟩ : ∃ E9, 1 ≤ E9 ∧ N 4 ≤ E9 ∧ (N 4 = 0 → E9 = 1) ∧ (0 < N 4 → E9 = N 4) := by
    by_cases h : N 4 = 0
    · exact ⟨1, by omega, by omega, fun _ => rfl, fun q => by omega⟩
    · exact ⟨N 4, by omega, by omega, fun q => absurd q h, fun _ => rfl⟩
  refine z_inIHC (cc := cL_plans) (maxL := 9) (rt := .boolean) (by decide +kernel) rfl (Nat.le_of_ble_eq_true rfl) ?_
  intro p e s m args below meth c sl9 A Q Z hX Mz9 hl9 hret
  have Z : zC p s m args c cL_plans 9 RL wsL_plans D T A := Z
  have hx := Z.1.1
  have hb := Z.1.2.1
  have hts := Z.1.2.2.2.2
  have hl9 : lv_has sl9 9 [(0, .ref (ad 0)), (1, .ref (av 0)), (2, .int (x9)), (3, .int (y9))] := hl9
  refine lv_iload_n hx hb dL_plans_0 rfl (lv_at hl9 2 rfl) ?_
  refine lv_iconst (v := 4) hx hb dL_plans_1 (by decide) ?_
  obtain ⟨q1, b1, z1⟩ := ln_low2 l x9 4 (by decide)
  refine z_callSi (As := [.int (x9), .int 4]) (rest := []) Z.1 z1 (va_cwS 2 hts gL_plans_L_low rfl rfl rfl (by decide +kernel) ⟨by decide, by decide⟩) rfl hl9.1 (Nat.le_of_ble_eq_true rfl) dL_plans_2 ⟨by show _ ≤ 320; omega, by show _ ≤ 4480; omega⟩ rfl ?_
  refine zn_if_le (a := q1) (tgt := 77) (by omega) hx hb dL_plans_5 (by decide) (fun c_1 => ?_) (fun c_1 => ?_)
  ·
    refine lv_iconst (v := 0) hx hb dL_plans_77 (by decide) ?_
    refine zn_top (y := nI (pS P 1)) (show (0 : Int32) = nI (pS P 1) by rw [pS1]; rfl) ?_
    refine lv_istore (lv' := [(4, .int (nI (pS P 1))), (0, .ref (ad 0)), (1, .ref (av 0)), (2, .int (x9)), (3, .int (y9))]) hx hb dL_plans_78 hl9 (by decide) rfl (fun sl9 hl9 => ?_)
    refine lv_aload_n hx hb dL_plans_80 rfl (lv_at hl9 1 rfl) ?_
    refine lv_aload_n hx hb dL_plans_81 rfl (lv_at hl9 2 rfl) ?_
    refine lv_iconst (v := 4) hx hb dL_plans_82 (by decide) ?_
    refine z_iald Z Mz9 0 (h0 := av 0) (n := 6) (f := ga) rfl (j := 4) (by decide) (by decide) dL_plans_83 ?_
    refine zn_top (y := nI (N 4)) (hg4) ?_
    refine z_callW (As := [.ref (ad 0), .int (nI (N 4))]) (rest := []) (zX_k ea mi sa) hX Z Mz9 (hc_planned_n hI (Nat.le_refl _) (by omega) _) (vx_cwSW 2 hts gL_plans_L_planned rfl rfl rfl (by decide +kernel) ⟨by decide, by decide⟩) rfl hl9.1 (Nat.le_of_ble_eq_true rfl) dL_plans_84 ⟨by show _ ≤ 320; omega, by show _ ≤ 4480; omega⟩ rfl (fun u9 Hp9 lc9 Mz9 => ?_)
    refine lv_iconst (v := (-1)) hx hb dL_plans_87 (by decide) ?_
    refine lv_icmp_ne (tgt := 95) hx hb dL_plans_88 (by decide) (fun h => absurd h (by decide)) (fun _ => ?_)
    refine lv_iconst (v := 1) hx hb dL_plans_91 (by decide) ?_
    refine lv_goto (tgt := 96) hx hb dL_plans_92 (by decide) ?_
    refine lv_istore (lv' := [(5, .int 1), (4, .int (nI (pS P 1))), (0, .ref (ad 0)), (1, .ref (av 0)), (2, .int (x9)), (3, .int (y9))]) hx hb dL_plans_96 hl9 (by decide) rfl (fun sl9 hl9 => ?_)
    refine lv_iconst (v := 1) hx hb dL_plans_98 (by decide) ?_
    refine lv_istore (lv' := [(6, .int 1), (5, .int 1), (4, .int (nI (pS P 1))), (0, .ref (ad 0)), (1, .ref (av 0)), (2, .int (x9)), (3, .int (y9))]) hx hb dL_plans_99 hl9 (by decide) rfl (fun sl9 hl9 => ?_)
    have LP101_1 : ∀ (n101 k : Nat), k + n101 = E9 → 1 ≤ k → ∀ (Hp9 : Heap) (lc9 : List Loc) (sl9 : Array Slot), zM D A s.heap (lwR T av ga ma aa ca ta ++ iw J ad (hG ad T ea nof N mst bst ρ)) Hp9 lc9 → lv_has sl9 9 [(0, .ref (ad 0)), (1, .ref (av 0)), (2, .int (x9)), (3, .int (y9)), (4, .int (nI (pS P k))), (5, .int 1), (6, .int (nI (k)))] → W p l e mR9 s m args below meth c Hp9 lc9 (5 + 20 * k) (70 + 280 * k) Q (F0 m 101 sl9 []) := by
      intro n101
      induction n101 with
      | zero =>
        intro k hk9 h90 Hp9 lc9 sl9 Mz9 hl9
        obtain rfl : E9 = k := by omega
        refine lv_iload hx hb dL_plans_101 (lv_at hl9 6 rfl) ?_
        refine lv_aload_n hx hb dL_plans_103 rfl (lv_at hl9 1 rfl) ?_
        refine lv_iconst (v := 4) hx hb dL_plans_104 (by decide) ?_
        refine z_iald Z Mz9 0 (h0 := av 0) (n := 6) (f := ga) rfl (j := 4) (by decide) (by decide) dL_plans_105 ?_
        refine zn_top (y := nI (N 4)) (hg4) ?_
        refine zn_icmp_ge (a := E9) (b := N 4) (tgt := 197) (by omega) (by omega) hx hb dL_plans_106 (by decide) (fun _ => ?_) (fun h => absurd h (by omega))
        refine lv_aload_n hx hb dL_plans_197 rfl (lv_at hl9 0 rfl) ?_
        by_cases h0 : N 4 = 0
        ·
          have hS0 : pS P E9 = 0 := by rw [e93 h0]; exact pS1 P
          refine z_callO (As := []) (rest := []) (zX_k ea mi sa) hX Z Mz9 (hc_run0 hI h0 _) (cwV 0 hts gL_plans_X5_run rfl rfl rfl (by decide +kernel) ⟨by decide, by decide⟩) (va_recv Z.2.1 Mz9.1 (ci := 6) (q0 := 5 + J.idxOf 0) rfl (rcv ((hI.1.2.1 0).mpr (Or.inl (by decide))))) rfl hl9.1 (Nat.le_of_ble_eq_true rfl) dL_plans_198 ⟨by show _ ≤ 320; omega, by show _ ≤ 4480; omega⟩ rfl (fun u9 Hp9 lc9 Mz9 => ?_)
          refine lv_istore (lv' := [(6, .int 0), (0, .ref (ad 0)), (1, .ref (av 0)), (2, .int (x9)), (3, .int (y9)), (4, .int (nI (pS P E9))), (5, .int 1)]) hx hb dL_plans_201 hl9 (by decide) rfl (fun sl9 hl9 => ?_)
          refine lv_aload_n hx hb dL_plans_203 rfl (lv_at hl9 2 rfl) ?_
          refine lv_iconst (v := 4) hx hb dL_plans_204 (by decide) ?_
          refine lv_iconst (v := 0) hx hb dL_plans_205 (by decide) ?_
          refine z_iast Z Mz9 0 (h0 := av 0) (n := 6) (f := ga) rfl (j := 4) (x := 0) (by decide) (by decide) (ws' := lwR T av (upd ga 4 0) ma aa ca ta ++ iw J ad (hG ad T ea nof N mst bst ρ)) rfl dL_plans_206 (fun Hp9 lc9 Mz9 => ?_)
          refine lv_iload hx hb dL_plans_207 (lv_at hl9 6 rfl) ?_
          refine lv_if_eq (tgt := 250) hx hb dL_plans_209 (by decide) (fun h => absurd h (by decide)) (fun _ => ?_)
          refine lv_iload hx hb dL_plans_212 (lv_at hl9 0 rfl) ?_
          refine lv_iload hx hb dL_plans_214 (lv_at hl9 5 rfl) ?_
          refine zn_icmp_lt (a := 0) (b := pS P E9) (tgt := 250) (by omega) (by omega) hx hb dL_plans_216 (by decide) (fun h => absurd h (by omega)) (fun _ => ?_)
          refine lv_iload hx hb dL_plans_219 (lv_at hl9 0 rfl) ?_
          refine lv_iload hx hb dL_plans_221 (lv_at hl9 5 rfl) ?_
          refine lv_sipush (v := 1100) hx hb dL_plans_223 (by decide) ?_
          refine zn_iadd (a := pS P E9) (b := 1100) hx hb dL_plans_226 ?_
          refine zn_icmp_gt (a := 0) (b := (pS P E9) + 1100) (tgt := 250) (by omega) (by omega) hx hb dL_plans_227 (by decide) (fun h => absurd h (by omega)) (fun _ => ?_)
          refine lv_aload_n hx hb dL_plans_230 rfl (lv_at hl9 1 rfl) ?_
          refine lv_iconst (v := 0) hx hb dL_plans_231 (by decide) ?_
          refine z_callW (As := [.ref (ad 0), .int 0]) (rest := []) (zX_k ea mi sa) hX Z Mz9 (hc_planned_n hI (q := 0) (by omega) (by decide) _) (vx_cwSW 2 hts gL_plans_L_planned rfl rfl rfl (by decide +kernel) ⟨by decide, by decide⟩) rfl hl9.1 (Nat.le_of_ble_eq_true rfl) dL_plans_232 ⟨by show _ ≤ 320; omega, by show _ ≤ 4480; omega⟩ rfl (fun u9 Hp9 lc9 Mz9 => ?_)
          refine lv_iconst (v := (-1)) hx hb dL_plans_235 (by decide) ?_
          refine lv_icmp_ne (tgt := 250) hx hb dL_plans_236 (by decide) (fun h => absurd h (by decide)) (fun _ => ?_)
          refine lv_aload_n hx hb dL_plans_239 rfl (lv_at hl9 1 rfl) ?_
          refine z_callO (As := []) (rest := []) (zX_k ea mi sa) hX Z Mz9 (hc_run0 hI h0 _) (cwV 0 hts gL_plans_X5_run rfl rfl rfl (by decide +kernel) ⟨by decide, by decide⟩) (va_recv Z.2.1 Mz9.1 (ci := 6) (q0 := 5 + J.idxOf 0) rfl (rcv ((hI.1.2.1 0).mpr (Or.inl (by decide))))) rfl hl9.1 (Nat.le_of_ble_eq_true rfl) dL_plans_240 ⟨by show _ ≤ 320; omega, by show _ ≤ 4480; omega⟩ rfl (fun u9 Hp9 lc9 Mz9 => ?_)
          refine lv_if_ne (tgt := 250) hx hb dL_plans_243 (by decide) (fun h => absurd h (by decide)) (fun _ => ?_)
          refine lv_iconst (v := 1) hx hb dL_plans_246 (by decide) ?_
          refine lv_goto (tgt := 251) hx hb dL_plans_247 (by decide) ?_
          exact hret _ _ _ _ _ sl9 _ _ (⟨((J, ad, N, mst, bst, ρ), upd ga 4 0, ma, aa, ca, ta), ⟨(I_le (Nat.le_succ C) hI), (GR_4 hGr h0), rfl⟩⟩) Mz9 rfl (rfl) rfl (by show _ ≤ 320; omega) (by show _ ≤ 4480; omega) dL_plans_251
        ·
          obtain ⟨F, ⟨F1, F2⟩, hw1, hI1⟩ := hc_run (l := l) (D := D) (T := T) (ea := ea) (mi := mi) (sa := sa) hI hP (Nat.pos_of_ne_zero h0)
          obtain ⟨ρ1, hρ1⟩ : ∃ q, q = upR ρ 14 (upd (upd (ρ 14) 0 0) 1 (nI (P (N 4 - 1)))) := ⟨_, rfl⟩
          rw [← hρ1] at hw1 hI1
          have hE := e94 (Nat.pos_of_ne_zero h0)
          have hS : pS P E9 = (P (N 4 - 1) - P 0) + (P 0 - P (N 4 - 1)) := by rw [hE]; rfl
          have hb0 := hPb 0 (by omega)
          have hbn := hPb (N 4 - 1) (by omega)
          refine z_callO (As := []) (rest := []) (zX_k ea mi sa) hX Z Mz9 (hw1 _) (cwV 0 hts gL_plans_X5_run rfl rfl rfl (by decide +kernel) ⟨by decide, by decide⟩) (va_recv Z.2.1 Mz9.1 (ci := 6) (q0 := 5 + J.idxOf 0) rfl (rcv ((hI.1.2.1 0).mpr (Or.inl (by decide))))) rfl hl9.1 (Nat.le_of_ble_eq_true rfl) dL_plans_198 ⟨by show _ ≤ 320; omega, by show _ ≤ 4480; omega⟩ rfl (fun u9 Hp9 lc9 Mz9 => ?_)
          refine lv_istore (lv' := [(6, .int (nI ((P 0 - F) + (F - P 0) + ((P (N 4 - 1) - P 0) + (P 0 - P (N 4 - 1)))))), (0, .ref (ad 0)), (1, .ref (av 0)), (2, .int (x9)), (3, .int (y9)), (4, .int (nI (pS P E9))), (5, .int 1)]) hx hb dL_plans_201 hl9 (by decide) rfl (fun sl9 hl9 => ?_)
          refine lv_aload_n hx hb dL_plans_203 rfl (lv_at hl9 2 rfl) ?_
          refine lv_iconst (v := 4) hx hb dL_plans_204 (by decide) ?_
          refine lv_iconst (v := 0) hx hb dL_plans_205 (by decide) ?_
          refine z_iast Z Mz9 0 (h0 := av 0) (n := 6) (f := ga) rfl (j := 4) (x := 0) (by decide) (by decide) (ws' := lwR T av (upd ga 4 0) ma aa ca ta ++ iw J ad (hG ad T ea nof (N4 N 0) mst bst ρ1)) rfl dL_plans_206 (fun Hp9 lc9 Mz9 => ?_)
          refine lv_iload hx hb dL_plans_207 (lv_at hl9 6 rfl) ?_
          refine lv_if_eq (tgt := 250) hx hb dL_plans_209 (by decide) (fun h => absurd h (by decide)) (fun _ => ?_)
          refine lv_iload hx hb dL_plans_212 (lv_at hl9 0 rfl) ?_
          refine lv_iload hx hb dL_plans_214 (lv_at hl9 5 rfl) ?_
          refine zn_icmp_lt (a := (P 0 - F) + (F - P 0) + ((P (N 4 - 1) - P 0) + (P 0 - P (N 4 - 1)))) (b := pS P E9) (tgt := 250) (by omega) (by omega) hx hb dL_plans_216 (by decide) (fun h => absurd h (by omega)) (fun _ => ?_)
          refine lv_iload hx hb dL_plans_219 (lv_at hl9 0 rfl) ?_
          refine lv_iload hx hb dL_plans_221 (lv_at hl9 5 rfl) ?_
          refine lv_sipush (v := 1100) hx hb dL_plans_223 (by decide) ?_
          refine zn_iadd (a := pS P E9) (b := 1100) hx hb dL_plans_226 ?_
          refine zn_icmp_gt (a := (P 0 - F) + (F - P 0) + ((P (N 4 - 1) - P 0) + (P 0 - P (N 4 - 1)))) (b := (pS P E9) + 1100) (tgt := 250) (by omega) (by omega) hx hb dL_plans_227 (by decide) (fun h => absurd h (by omega)) (fun _ => ?_)
          refine lv_aload_n hx hb dL_plans_230 rfl (lv_at hl9 1 rfl) ?_
          refine lv_iconst (v := 0) hx hb dL_plans_231 (by decide) ?_
          refine z_callW (As := [.ref (ad 0), .int 0]) (rest := []) (zX_k ea mi sa) hX Z Mz9 (hc_planned_n hI1 (q := 0) (Nat.le_refl 0) (by decide) _) (vx_cwSW 2 hts gL_plans_L_planned rfl rfl rfl (by decide +kernel) ⟨by decide, by decide⟩) rfl hl9.1 (Nat.le_of_ble_eq_true rfl) dL_plans_232 ⟨by show _ ≤ 320; omega, by show _ ≤ 4480; omega⟩ rfl (fun u9 Hp9 lc9 Mz9 => ?_)
          refine lv_iconst (v := (-1)) hx hb dL_plans_235 (by decide) ?_
          refine lv_icmp_ne (tgt := 250) hx hb dL_plans_236 (by decide) (fun h => absurd h (by decide)) (fun _ => ?_)
          refine lv_aload_n hx hb dL_plans_239 rfl (lv_at hl9 1 rfl) ?_
          refine z_callO (As := []) (rest := []) (zX_k ea mi sa) hX Z Mz9 (hc_run0 hI1 rfl _) (cwV 0 hts gL_plans_X5_run rfl rfl rfl (by decide +kernel) ⟨by decide, by decide⟩) (va_recv Z.2.1 Mz9.1 (ci := 6) (q0 := 5 + J.idxOf 0) rfl (rcv ((hI.1.2.1 0).mpr (Or.inl (by decide))))) rfl hl9.1 (Nat.le_of_ble_eq_true rfl) dL_plans_240 ⟨by show _ ≤ 320; omega, by show _ ≤ 4480; omega⟩ rfl (fun u9 Hp9 lc9 Mz9 => ?_)
          refine lv_if_ne (tgt := 250) hx hb dL_plans_243 (by decide) (fun h => absurd h (by decide)) (fun _ => ?_)
          refine lv_iconst (v := 1) hx hb dL_plans_246 (by decide) ?_
          refine lv_goto (tgt := 251) hx hb dL_plans_247 (by decide) ?_
          exact hret _ _ _ _ _ sl9 _ _ (⟨((J, ad, N4 N 0, mst, bst, ρ1), upd ga 4 0, ma, aa, ca, ta), ⟨(I_le (Nat.le_succ C) hI1), (GR_j hGr 0), rfl⟩⟩) Mz9 rfl (rfl) rfl (by show _ ≤ 320; omega) (by show _ ≤ 4480; omega) dL_plans_251
      | succ n101 ih101 =>
        intro k hk9 h90 Hp9 lc9 sl9 Mz9 hl9
        have hk0 : 0 < N 4 := Nat.pos_of_ne_zero (fun q => by have := e93 q; omega)
        have hkE := e94 hk0
        have hbk := hPb k (by omega)
        have hbk1 := hPb (k - 1) (by omega)
        have hb0 := hPb 0 (by omega)
        have hbn := hPb (N 4 - 1) (by omega)
        refine lv_iload hx hb dL_plans_101 (lv_at hl9 6 rfl) ?_
        refine lv_aload_n hx hb dL_plans_103 rfl (lv_at hl9 1 rfl) ?_
        refine lv_iconst (v := 4) hx hb dL_plans_104 (by decide) ?_
        refine z_iald Z Mz9 0 (h0 := av 0) (n := 6) (f := ga) rfl (j := 4) (by decide) (by decide) dL_plans_105 ?_
        refine zn_top (y := nI (N 4)) (hg4) ?_
        refine zn_icmp_ge (a := k) (b := N 4) (tgt := 197) (by omega) (by omega) hx hb dL_plans_106 (by decide) (fun h => absurd h (by omega)) (fun _ => ?_)
        refine lv_aload_n hx hb dL_plans_109 rfl (lv_at hl9 0 rfl) ?_
        refine lv_iload hx hb dL_plans_110 (lv_at hl9 6 rfl) ?_
        refine z_callW (As := [.ref (ad 0), .int (nI (k))]) (rest := []) (zX_k ea mi sa) hX Z Mz9 (hc_planned hI hP (q := k) (by omega) _) (vx_cwSW 2 hts gL_plans_L_planned rfl rfl rfl (by decide +kernel) ⟨by decide, by decide⟩) rfl hl9.1 (Nat.le_of_ble_eq_true rfl) dL_plans_112 ⟨by show _ ≤ 320; omega, by show _ ≤ 4480; omega⟩ rfl (fun u9 Hp9 lc9 Mz9 => ?_)
        refine lv_aload_n hx hb dL_plans_115 rfl (lv_at hl9 0 rfl) ?_
        refine lv_iload hx hb dL_plans_116 (lv_at hl9 6 rfl) ?_
        refine lv_iconst (v := 1) hx hb dL_plans_118 (by decide) ?_
        refine zn_isub (a := k) (b := 1) (by omega) hx hb dL_plans_119 ?_
        refine z_callW (As := [.ref (ad 0), .int (nI (k - 1))]) (rest := [.int (nI (P k))]) (zX_k ea mi sa) hX Z Mz9 (hc_planned hI hP (q := k - 1) (by omega) _) (vx_cwSW 2 hts gL_plans_L_planned rfl rfl rfl (by decide +kernel) ⟨by decide, by decide⟩) rfl hl9.1 (Nat.le_of_ble_eq_true rfl) dL_plans_120 ⟨by show _ ≤ 320; omega, by show _ ≤ 4480; omega⟩ rfl (fun u9 Hp9 lc9 Mz9 => ?_)
        refine lv_isub hx hb dL_plans_123 ?_
        by_cases hd : P k = P (k - 1)
        ·
          refine zn_top (y := nI 0) (show (nI (P k)) - (nI (P (k - 1))) = nI 0 by rw [hd, Int32.sub_self]; rfl) ?_
          refine lv_istore (lv' := [(7, .int (nI (0))), (0, .ref (ad 0)), (1, .ref (av 0)), (2, .int (x9)), (3, .int (y9)), (4, .int (nI (pS P k))), (5, .int 1), (6, .int (nI (k)))]) hx hb dL_plans_124 hl9 (by decide) rfl (fun sl9 hl9 => ?_)
          refine lv_aload_n hx hb dL_plans_126 rfl (lv_at hl9 1 rfl) ?_
          refine lv_aload_n hx hb dL_plans_127 rfl (lv_at hl9 2 rfl) ?_
          refine lv_iconst (v := 4) hx hb dL_plans_128 (by decide) ?_
          refine z_iald Z Mz9 0 (h0 := av 0) (n := 6) (f := ga) rfl (j := 4) (by decide) (by decide) dL_plans_129 ?_
          refine zn_top (y := nI (N 4)) (hg4) ?_
          refine lv_iconst (v := 1) hx hb dL_plans_130 (by decide) ?_
          refine zn_isub (a := N 4) (b := 1) (by omega) hx hb dL_plans_131 ?_
          refine z_callW (As := [.ref (ad 0), .int (nI ((N 4) - 1))]) (rest := []) (zX_k ea mi sa) hX Z Mz9 (hc_planned hI hP (q := (N 4) - 1) (by omega) _) (vx_cwSW 2 hts gL_plans_L_planned rfl rfl rfl (by decide +kernel) ⟨by decide, by decide⟩) rfl hl9.1 (Nat.le_of_ble_eq_true rfl) dL_plans_132 ⟨by show _ ≤ 320; omega, by show _ ≤ 4480; omega⟩ rfl (fun u9 Hp9 lc9 Mz9 => ?_)
          refine lv_aload_n hx hb dL_plans_135 rfl (lv_at hl9 1 rfl) ?_
          refine lv_iconst (v := 0) hx hb dL_plans_136 (by decide) ?_
          refine z_callW (As := [.ref (ad 0), .int 0]) (rest := [.int (nI (P ((N 4) - 1)))]) (zX_k ea mi sa) hX Z Mz9 (hc_planned hI hP (q := 0) (by omega) _) (vx_cwSW 2 hts gL_plans_L_planned rfl rfl rfl (by decide +kernel) ⟨by decide, by decide⟩) rfl hl9.1 (Nat.le_of_ble_eq_true rfl) dL_plans_137 ⟨by show _ ≤ 320; omega, by show _ ≤ 4480; omega⟩ rfl (fun u9 Hp9 lc9 Mz9 => ?_)
          refine lv_isub hx hb dL_plans_140 ?_
          by_cases hf : P (N 4 - 1) = P 0
          ·
            refine zn_top (y := nI 0) (show (nI (P ((N 4) - 1))) - (nI (P 0)) = nI 0 by rw [hf, Int32.sub_self]; rfl) ?_
            refine lv_istore (lv' := [(8, .int (nI (0))), (7, .int (nI (0))), (0, .ref (ad 0)), (1, .ref (av 0)), (2, .int (x9)), (3, .int (y9)), (4, .int (nI (pS P k))), (5, .int 1), (6, .int (nI (k)))]) hx hb dL_plans_141 hl9 (by decide) rfl (fun sl9 hl9 => ?_)
            refine lv_iload hx hb dL_plans_143 (lv_at hl9 6 rfl) ?_
            refine lv_iload hx hb dL_plans_145 (lv_at hl9 1 rfl) ?_
            refine lv_if_ge (tgt := 156) hx hb dL_plans_147 (by decide) (fun _ => ?_) (fun h => absurd h (fun q => q ((nI_leI (a := 0) (by decide) (by omega)).mpr (Nat.zero_le _))))
            refine lv_iload hx hb dL_plans_156 (lv_at hl9 1 rfl) ?_
            refine zn_iadd (a := pS P k) (b := 0) hx hb dL_plans_158 ?_
            refine zn_top (y := nI (pS P (k + 1))) (congrArg nI (show (pS P k) + 0 = pS P (k + 1) by have h8 := hdn (k - 1) k (by omega) (by omega); have h7 := hdn 0 (k - 1) (by omega) (by omega); unfold pS; rw [Nat.add_sub_cancel]; omega)) ?_
            refine lv_istore (lv' := [(4, .int (nI (pS P (k + 1)))), (8, .int (nI (0))), (7, .int (nI (0))), (0, .ref (ad 0)), (1, .ref (av 0)), (2, .int (x9)), (3, .int (y9)), (5, .int 1), (6, .int (nI (k)))]) hx hb dL_plans_159 hl9 (by decide) rfl (fun sl9 hl9 => ?_)
            refine lv_iload hx hb dL_plans_161 (lv_at hl9 7 rfl) ?_
            refine lv_if_eq (tgt := 188) hx hb dL_plans_163 (by decide) (fun h => absurd h (by decide)) (fun _ => ?_)
            refine lv_iload hx hb dL_plans_166 (lv_at hl9 1 rfl) ?_
            refine lv_if_ge (tgt := 179) hx hb dL_plans_168 (by decide) (fun _ => ?_) (fun h => absurd h (fun q => q ((nI_leI (a := 0) (by decide) (by omega)).mpr (Nat.zero_le _))))
            refine lv_iload hx hb dL_plans_179 (lv_at hl9 2 rfl) ?_
            refine zn_if_lt (a := 0) (tgt := 188) (by omega) hx hb dL_plans_181 (by decide) (fun h => absurd h (fun q => q)) (fun _ => ?_)
            refine lv_iconst (v := 1) hx hb dL_plans_184 (by decide) ?_
            refine lv_goto (tgt := 189) hx hb dL_plans_185 (by decide) ?_
            refine lv_istore (lv' := [(5, .int 1), (4, .int (nI (pS P (k + 1)))), (8, .int (nI (0))), (7, .int (nI (0))), (0, .ref (ad 0)), (1, .ref (av 0)), (2, .int (x9)), (3, .int (y9)), (6, .int (nI (k)))]) hx hb dL_plans_189 hl9 (by decide) rfl (fun sl9 hl9 => ?_)
            refine lv_iinc (v := nI (k + 1)) (lv' := [(6, .int (nI (k + 1))), (5, .int 1), (4, .int (nI (pS P (k + 1)))), (8, .int (nI (0))), (7, .int (nI (0))), (0, .ref (ad 0)), (1, .ref (av 0)), (2, .int (x9)), (3, .int (y9))]) hx hb dL_plans_191 hl9 (k := 8) rfl (nI_add (k) 1) (by decide) rfl (fun sl9 hl9 => ?_)
            refine lv_goto (tgt := 101) hx hb dL_plans_194 (by decide) ?_
            refine W.widen (show _ ≤ 5 + 20 * (k + 1) by omega) (show _ ≤ 70 + 280 * (k + 1) by omega) ?_
            exact ih101 (k + 1) (by omega) (by omega) _ _ _ Mz9 (lv_sub hl9 [5, 6, 7, 8, 2, 1, 0] rfl)
          ·
            have hf2 : P (N 4 - 1) < P 0 := by have := hdn 0 (N 4 - 1) (by omega) (by omega); omega
            obtain ⟨f9, hf9⟩ : ∃ f9, f9 = P 0 - P (N 4 - 1) := ⟨_, rfl⟩
            have hf8 : f9 < 1301 := by have := hPb 0 (by omega); omega
            refine zn_top (y := 0 - nI f9) (show (nI (P ((N 4) - 1))) - (nI (P 0)) = 0 - nI f9 by rw [i_negsub, pk_sub (by omega), hf9]) ?_
            refine lv_istore (lv' := [(8, .int (0 - nI f9)), (7, .int (nI (0))), (0, .ref (ad 0)), (1, .ref (av 0)), (2, .int (x9)), (3, .int (y9)), (4, .int (nI (pS P k))), (5, .int 1), (6, .int (nI (k)))]) hx hb dL_plans_141 hl9 (by decide) rfl (fun sl9 hl9 => ?_)
            refine lv_iload hx hb dL_plans_143 (lv_at hl9 6 rfl) ?_
            refine lv_iload hx hb dL_plans_145 (lv_at hl9 1 rfl) ?_
            refine lv_if_ge (tgt := 156) hx hb dL_plans_147 (by decide) (fun _ => ?_) (fun h => absurd h (fun q => q ((nI_leI (a := 0) (by decide) (by omega)).mpr (Nat.zero_le _))))
            refine lv_iload hx hb dL_plans_156 (lv_at hl9 1 rfl) ?_
            refine zn_iadd (a := pS P k) (b := 0) hx hb dL_plans_158 ?_
            refine zn_top (y := nI (pS P (k + 1))) (congrArg nI (show (pS P k) + 0 = pS P (k + 1) by have h8 := hdn (k - 1) k (by omega) (by omega); have h7 := hdn 0 (k - 1) (by omega) (by omega); unfold pS; rw [Nat.add_sub_cancel]; omega)) ?_
            refine lv_istore (lv' := [(4, .int (nI (pS P (k + 1)))), (8, .int (0 - nI f9)), (7, .int (nI (0))), (0, .ref (ad 0)), (1, .ref (av 0)), (2, .int (x9)), (3, .int (y9)), (5, .int 1), (6, .int (nI (k)))]) hx hb dL_plans_159 hl9 (by decide) rfl (fun sl9 hl9 => ?_)
            refine lv_iload hx hb dL_plans_161 (lv_at hl9 7 rfl) ?_
            refine lv_if_eq (tgt := 188) hx hb dL_plans_163 (by decide) (fun h => absurd h (by decide)) (fun _ => ?_)
            refine lv_iload hx hb dL_plans_166 (lv_at hl9 1 rfl) ?_
            refine lv_if_ge (tgt := 179) hx hb dL_plans_168 (by decide) (fun h => absurd h (neg_tab f9 hf8 (by omega))) (fun _ => ?_)
            refine lv_iload hx hb dL_plans_171 (lv_at hl9 2 rfl) ?_
            refine lv_if_gt (tgt := 188) hx hb dL_plans_173 (by decide) (fun h => absurd h (by decide)) (fun _ => ?_)
            refine lv_goto (tgt := 184) hx hb dL_plans_176 (by decide) ?_
            refine lv_iconst (v := 1) hx hb dL_plans_184 (by decide) ?_
            refine lv_goto (tgt := 189) hx hb dL_plans_185 (by decide) ?_
            refine lv_istore (lv' := [(5, .int 1), (4, .int (nI (pS P (k + 1)))), (8, .int (0 - nI f9)), (7, .int (nI (0))), (0, .ref (ad 0)), (1, .ref (av 0)), (2, .int (x9)), (3, .int (y9)), (6, .int (nI (k)))]) hx hb dL_plans_189 hl9 (by decide) rfl (fun sl9 hl9 => ?_)
            refine lv_iinc (v := nI (k + 1)) (lv' := [(6, .int (nI (k + 1))), (5, .int 1), (4, .int (nI (pS P (k + 1)))), (8, .int (0 - nI f9)), (7, .int (nI (0))), (0, .ref (ad 0)), (1, .ref (av 0)), (2, .int (x9)), (3, .int (y9))]) hx hb dL_plans_191 hl9 (k := 8) rfl (nI_add (k) 1) (by decide) rfl (fun sl9 hl9 => ?_)
            refine lv_goto (tgt := 101) hx hb dL_plans_194 (by decide) ?_
            refine W.widen (show _ ≤ 5 + 20 * (k + 1) by omega) (show _ ≤ 70 + 280 * (k + 1) by omega) ?_
            exact ih101 (k + 1) (by omega) (by omega) _ _ _ Mz9 (lv_sub hl9 [5, 6, 7, 8, 2, 1, 0] rfl)
        ·
          have hd2 : P k < P (k - 1) := by have := hdn (k - 1) k (by omega) (by omega); omega
          obtain ⟨d9, hd9⟩ : ∃ d9, d9 = P (k - 1) - P k := ⟨_, rfl⟩
          have hd8 : d9 < 1301 := by have := hPb (k - 1) (by omega); omega
          refine zn_top (y := 0 - nI d9) (show (nI (P k)) - (nI (P (k - 1))) = 0 - nI d9 by rw [i_negsub, pk_sub (by omega), hd9]) ?_
          refine lv_istore (lv' := [(7, .int (0 - nI d9)), (0, .ref (ad 0)), (1, .ref (av 0)), (2, .int (x9)), (3, .int (y9)), (4, .int (nI (pS P k))), (5, .int 1), (6, .int (nI (k)))]) hx hb dL_plans_124 hl9 (by decide) rfl (fun sl9 hl9 => ?_)
          refine lv_aload_n hx hb dL_plans_126 rfl (lv_at hl9 1 rfl) ?_
          refine lv_aload_n hx hb dL_plans_127 rfl (lv_at hl9 2 rfl) ?_
          refine lv_iconst (v := 4) hx hb dL_plans_128 (by decide) ?_
          refine z_iald Z Mz9 0 (h0 := av 0) (n := 6) (f := ga) rfl (j := 4) (by decide) (by decide) dL_plans_129 ?_
          refine zn_top (y := nI (N 4)) (hg4) ?_
          refine lv_iconst (v := 1) hx hb dL_plans_130 (by decide) ?_
          refine zn_isub (a := N 4) (b := 1) (by omega) hx hb dL_plans_131 ?_
          refine z_callW (As := [.ref (ad 0), .int (nI ((N 4) - 1))]) (rest := []) (zX_k ea mi sa) hX Z Mz9 (hc_planned hI hP (q := (N 4) - 1) (by omega) _) (vx_cwSW 2 hts gL_plans_L_planned rfl rfl rfl (by decide +kernel) ⟨by decide, by decide⟩) rfl hl9.1 (Nat.le_of_ble_eq_true rfl) dL_plans_132 ⟨by show _ ≤ 320; omega, by show _ ≤ 4480; omega⟩ rfl (fun u9 Hp9 lc9 Mz9 => ?_)
          refine lv_aload_n hx hb dL_plans_135 rfl (lv_at hl9 1 rfl) ?_
          refine lv_iconst (v := 0) hx hb dL_plans_136 (by decide) ?_
          refine z_callW (As := [.ref (ad 0), .int 0]) (rest := [.int (nI (P ((N 4) - 1)))]) (zX_k ea mi sa) hX Z Mz9 (hc_planned hI hP (q := 0) (by omega) _) (vx_cwSW 2 hts gL_plans_L_planned rfl rfl rfl (by decide +kernel) ⟨by decide, by decide⟩) rfl hl9.1 (Nat.le_of_ble_eq_true rfl) dL_plans_137 ⟨by show _ ≤ 320; omega, by show _ ≤ 4480; omega⟩ rfl (fun u9 Hp9 lc9 Mz9 => ?_)
          refine lv_isub hx hb dL_plans_140 ?_
          by_cases hf : P (N 4 - 1) = P 0
          ·
            have hf1 := hdn 0 (k - 1) (by omega) (by omega)
            have hf2 := hdn k (N 4 - 1) (by omega) (by omega)
            omega
          ·
            have hf2 : P (N 4 - 1) < P 0 := by have := hdn 0 (N 4 - 1) (by omega) (by omega); omega
            obtain ⟨f9, hf9⟩ : ∃ f9, f9 = P 0 - P (N 4 - 1) := ⟨_, rfl⟩
            have hf8 : f9 < 1301 := by have := hPb 0 (by omega); omega
            refine zn_top (y := 0 - nI f9) (show (nI (P ((N 4) - 1))) - (nI (P 0)) = 0 - nI f9 by rw [i_negsub, pk_sub (by omega), hf9]) ?_
            refine lv_istore (lv' := [(8, .int (0 - nI f9)), (7, .int (0 - nI d9)), (0, .ref (ad 0)), (1, .ref (av 0)), (2, .int (x9)), (3, .int (y9)), (4, .int (nI (pS P k))), (5, .int 1), (6, .int (nI (k)))]) hx hb dL_plans_141 hl9 (by decide) rfl (fun sl9 hl9 => ?_)
            refine lv_iload hx hb dL_plans_143 (lv_at hl9 6 rfl) ?_
            refine lv_iload hx hb dL_plans_145 (lv_at hl9 1 rfl) ?_
            refine lv_if_ge (tgt := 156) hx hb dL_plans_147 (by decide) (fun h => absurd h (neg_tab d9 hd8 (by omega))) (fun _ => ?_)
            refine lv_iload hx hb dL_plans_150 (lv_at hl9 1 rfl) ?_
            refine lv_ineg hx hb dL_plans_152 ?_
            refine zn_top (y := nI d9) (show -(0 - nI d9) = nI d9 by rw [Int32.zero_sub, Int32.neg_neg]) ?_
            refine lv_goto (tgt := 158) hx hb dL_plans_153 (by decide) ?_
            refine zn_iadd (a := pS P k) (b := d9) hx hb dL_plans_158 ?_
            refine zn_top (y := nI (pS P (k + 1))) (congrArg nI (show (pS P k) + d9 = pS P (k + 1) by have h8 := hdn (k - 1) k (by omega) (by omega); have h7 := hdn 0 (k - 1) (by omega) (by omega); unfold pS; rw [Nat.add_sub_cancel]; omega)) ?_
            refine lv_istore (lv' := [(4, .int (nI (pS P (k + 1)))), (8, .int (0 - nI f9)), (7, .int (0 - nI d9)), (0, .ref (ad 0)), (1, .ref (av 0)), (2, .int (x9)), (3, .int (y9)), (5, .int 1), (6, .int (nI (k)))]) hx hb dL_plans_159 hl9 (by decide) rfl (fun sl9 hl9 => ?_)
            refine lv_iload hx hb dL_plans_161 (lv_at hl9 7 rfl) ?_
            refine lv_if_eq (tgt := 188) hx hb dL_plans_163 (by decide) (fun h => absurd h (by decide)) (fun _ => ?_)
            refine lv_iload hx hb dL_plans_166 (lv_at hl9 1 rfl) ?_
            refine lv_if_ge (tgt := 179) hx hb dL_plans_168 (by decide) (fun h => absurd h (neg_tab f9 hf8 (by omega))) (fun _ => ?_)
            refine lv_iload hx hb dL_plans_171 (lv_at hl9 2 rfl) ?_
            refine lv_if_gt (tgt := 188) hx hb dL_plans_173 (by decide) (fun h => absurd h (neg_tab2 d9 hd8)) (fun _ => ?_)
            refine lv_goto (tgt := 184) hx hb dL_plans_176 (by decide) ?_
            refine lv_iconst (v := 1) hx hb dL_plans_184 (by decide) ?_
            refine lv_goto (tgt := 189) hx hb dL_plans_185 (by decide) ?_
            refine lv_istore (lv' := [(5, .int 1), (4, .int (nI (pS P (k + 1)))), (8, .int (0 - nI f9)), (7, .int (0 - nI d9)), (0, .ref (ad 0)), (1, .ref (av 0)), (2, .int (x9)), (3, .int (y9)), (6, .int (nI (k)))]) hx hb dL_plans_189 hl9 (by decide) rfl (fun sl9 hl9 => ?_)
            refine lv_iinc (v := nI (k + 1)) (lv' := [(6, .int (nI (k + 1))), (5, .int 1), (4, .int (nI (pS P (k + 1)))), (8, .int (0 - nI f9)), (7, .int (0 - nI d9)), (0, .ref (ad 0)), (1, .ref (av 0)), (2, .int (x9)), (3, .int (y9))]) hx hb dL_plans_191 hl9 (k := 8) rfl (nI_add (k) 1) (by decide) rfl (fun sl9 hl9 => ?_)
            refine lv_goto (tgt := 101) hx hb dL_plans_194 (by decide) ?_
            refine W.widen (show _ ≤ 5 + 20 * (k + 1) by omega) (show _ ≤ 70 + 280 * (k + 1) by omega) ?_
            exact ih101 (k + 1) (by omega) (by omega) _ _ _ Mz9 (lv_sub hl9 [5, 6, 7, 8, 2, 1, 0] rfl)
    refine W.widen (show _ ≤ 5 + 20 * 1 by omega) (show _ ≤ 70 + 280 * 1 by omega) ?_
    exact LP101_1 (E9 - 1) (1) (by omega) (Nat.le_refl 1) _ _ _ Mz9 (lv_sub hl9 [3, 4, 5, 6, 2, 1, 0] rfl)
  ·
    refine lv_sipush (v := 200) hx hb dL_plans_8 (by decide) ?_
    refine lv_iload_n hx hb dL_plans_11 rfl (lv_at hl9 3 rfl) ?_
    refine lv_sipush (v := 1101) hx hb dL_plans_12 (by decide) ?_
    obtain ⟨q2, b2, z2⟩ := ln_low2 l y9 1101 (by decide)
    refine z_callSi (As := [.int (y9), .int 1101]) (rest := [.int 200]) Z.1 z2 (va_cwS 2 hts gL_plans_L_low rfl rfl rfl (by decide +kernel) ⟨by decide, by decide⟩) rfl hl9.1 (Nat.le_of_ble_eq_true rfl) dL_plans_15 ⟨by show _ ≤ 320; omega, by show _ ≤ 4480; omega⟩ rfl ?_
    refine zn_iadd (a := 200) (b := q2) hx hb dL_plans_18 ?_
    refine lv_istore (lv' := [(4, .int (nI (200 + q2))), (0, .ref (ad 0)), (1, .ref (av 0)), (2, .int (x9)), (3, .int (y9))]) hx hb dL_plans_19 hl9 (by decide) rfl (fun sl9 hl9 => ?_)
    refine lv_aload_n hx hb dL_plans_21 rfl (lv_at hl9 1 rfl) ?_
    refine lv_iload hx hb dL_plans_22 (lv_at hl9 0 rfl) ?_
    by_cases hj : N 4 < 12
    ·
      obtain ⟨hw1, hI1⟩ := hc_job (l := l) (D := D) (T := T) (ea := ea) (mi := mi) (sa := sa) hI (w := 200 + q2) (by omega) (by omega) hj
      obtain ⟨ρ1, hρ1⟩ : ∃ q, q = upR (upR ρ 14 (upd (ρ 14) 0 (nI (N 4 + 1)))) 15 (ins (ρ 15) (nI (200 + q2)) (N 4)) := ⟨_, rfl⟩
      rw [← hρ1] at hw1 hI1
      refine z_callW (As := [.ref (ad 0), .int (nI (200 + q2))]) (rest := []) (zX_k ea mi sa) hX Z Mz9 (hw1 _) (vx_cwSW 2 hts gL_plans_L_job rfl rfl rfl (by decide +kernel) ⟨by decide, by decide⟩) rfl hl9.1 (Nat.le_of_ble_eq_true rfl) dL_plans_24 ⟨by show _ ≤ 320; omega, by show _ ≤ 4480; omega⟩ rfl (fun u9 Hp9 lc9 Mz9 => ?_)
      refine lv_istore (lv' := [(5, .int (nI (N 4 + 1))), (4, .int (nI (200 + q2))), (0, .ref (ad 0)), (1, .ref (av 0)), (2, .int (x9)), (3, .int (y9))]) hx hb dL_plans_27 hl9 (by decide) rfl (fun sl9 hl9 => ?_)
      refine lv_aload_n hx hb dL_plans_29 rfl (lv_at hl9 3 rfl) ?_
      refine lv_iconst (v := 4) hx hb dL_plans_30 (by decide) ?_
      refine lv_dup2_11 hx hb dL_plans_31 rfl rfl ?_
      refine z_iald Z Mz9 0 (h0 := av 0) (n := 6) (f := ga) rfl (j := 4) (by decide) (by decide) dL_plans_32 ?_
      refine zn_top (y := nI (N 4)) (hg4) ?_
      refine lv_aload_n hx hb dL_plans_33 rfl (lv_at hl9 3 rfl) ?_
      refine lv_iconst (v := 4) hx hb dL_plans_34 (by decide) ?_
      refine z_iald Z Mz9 0 (h0 := av 0) (n := 6) (f := ga) rfl (j := 4) (by decide) (by decide) dL_plans_35 ?_
      refine zn_top (y := nI (N 4)) (hg4) ?_
      refine lv_bipush (v := 12) hx hb dL_plans_36 (by decide) ?_
      refine zn_icmp_ge (a := N 4) (b := 12) (tgt := 45) (by omega) (by decide) hx hb dL_plans_38 (by decide) (fun h => absurd h (by omega)) (fun _ => ?_)
      refine lv_iconst (v := 1) hx hb dL_plans_41 (by decide) ?_
      refine lv_goto (tgt := 46) hx hb dL_plans_42 (by decide) ?_
      refine zn_iadd (a := N 4) (b := 1) hx hb dL_plans_46 ?_
      refine z_iast Z Mz9 0 (h0 := av 0) (n := 6) (f := ga) rfl (j := 4) (x := nI ((N 4) + 1)) (by decide) (by decide) (ws' := lwR T av (upd ga 4 (nI ((N 4) + 1))) ma aa ca ta ++ iw J ad (hG ad T ea nof (N4 N (N 4 + 1)) mst bst ρ1)) rfl dL_plans_47 (fun Hp9 lc9 Mz9 => ?_)
      refine lv_iload hx hb dL_plans_48 (lv_at hl9 0 rfl) ?_
      refine lv_aload_n hx hb dL_plans_50 rfl (lv_at hl9 3 rfl) ?_
      refine lv_iconst (v := 4) hx hb dL_plans_51 (by decide) ?_
      refine z_iald Z Mz9 0 (h0 := av 0) (n := 6) (f := upd ga 4 (nI ((N 4) + 1))) rfl (j := 4) (by decide) (by decide) dL_plans_52 ?_
      refine zn_top (y := nI (N 4 + 1)) (upd_same _ _ _) ?_
      refine zn_icmp_eq (a := N 4 + 1) (b := N 4 + 1) (tgt := 71) (by omega) (by omega) hx hb dL_plans_53 (by decide) (fun _ => ?_) (fun h => absurd h (fun q => q rfl))
      refine lv_iconst (v := 1) hx hb dL_plans_71 (by decide) ?_
      refine lv_goto (tgt := 76) hx hb dL_plans_72 (by decide) ?_
      exact hret _ _ _ _ _ sl9 _ _ (⟨((J, ad, N4 N (N 4 + 1), mst, bst, ρ1), upd ga 4 (nI ((N 4) + 1)), ma, aa, ca, ta), ⟨(I_le (Nat.le_succ C) hI1), (GR_j hGr (N 4 + 1)), rfl⟩⟩) Mz9 rfl (rfl) rfl (by show _ ≤ 320; omega) (by show _ ≤ 4480; omega) dL_plans_76
    ·
      have hw1 := hc_job_w (l := l) (D := D) (T := T) (ea := ea) (mi := mi) (sa := sa) (ad := ad) (J := J) (N := N) (mst := mst) (bst := bst) (ρ := ρ) hfl hI (w := 200 + q2) (by omega) (by omega) (by omega)
      refine z_callW (As := [.ref (ad 0), .int (nI (200 + q2))]) (rest := []) (zX_k ea mi sa) hX Z Mz9 (hw1 _) (vx_cwSW 2 hts gL_plans_L_job rfl rfl rfl (by decide +kernel) ⟨by decide, by decide⟩) rfl hl9.1 (Nat.le_of_ble_eq_true rfl) dL_plans_24 ⟨by show _ ≤ 320; omega, by show _ ≤ 4480; omega⟩ rfl (fun u9 Hp9 lc9 Mz9 => ?_)
      refine lv_istore (lv' := [(5, .int (-1000003)), (4, .int (nI (200 + q2))), (0, .ref (ad 0)), (1, .ref (av 0)), (2, .int (x9)), (3, .int (y9))]) hx hb dL_plans_27 hl9 (by decide) rfl (fun sl9 hl9 => ?_)
      refine lv_aload_n hx hb dL_plans_29 rfl (lv_at hl9 3 rfl) ?_
      refine lv_iconst (v := 4) hx hb dL_plans_30 (by decide) ?_
      refine lv_dup2_11 hx hb dL_plans_31 rfl rfl ?_
      refine z_iald Z Mz9 0 (h0 := av 0) (n := 6) (f := ga) rfl (j := 4) (by decide) (by decide) dL_plans_32 ?_
      refine zn_top (y := nI (N 4)) (hg4) ?_
      refine lv_aload_n hx hb dL_plans_33 rfl (lv_at hl9 3 rfl) ?_
      refine lv_iconst (v := 4) hx hb dL_plans_34 (by decide) ?_
      refine z_iald Z Mz9 0 (h0 := av 0) (n := 6) (f := ga) rfl (j := 4) (by decide) (by decide) dL_plans_35 ?_
      refine zn_top (y := nI (N 4)) (hg4) ?_
      refine lv_bipush (v := 12) hx hb dL_plans_36 (by decide) ?_
      refine zn_icmp_ge (a := N 4) (b := 12) (tgt := 45) (by omega) (by decide) hx hb dL_plans_38 (by decide) (fun _ => ?_) (fun h => absurd h (by omega))
      refine lv_iconst (v := 0) hx hb dL_plans_45 (by decide) ?_
      refine zn_iadd (a := N 4) (b := 0) hx hb dL_plans_46 ?_
      refine z_iast Z Mz9 0 (h0 := av 0) (n := 6) (f := ga) rfl (j := 4) (x := nI ((N 4) + 0)) (by decide) (by decide) (ws' := lwR T av (upd ga 4 (nI ((N 4) + 0))) ma aa ca ta ++ iw J ad (hG ad T ea nof N mst bst ρ)) rfl dL_plans_47 (fun Hp9 lc9 Mz9 => ?_)
      refine lv_iload hx hb dL_plans_48 (lv_at hl9 0 rfl) ?_
      refine lv_aload_n hx hb dL_plans_50 rfl (lv_at hl9 3 rfl) ?_
      refine lv_iconst (v := 4) hx hb dL_plans_51 (by decide) ?_
      refine z_iald Z Mz9 0 (h0 := av 0) (n := 6) (f := upd ga 4 (nI ((N 4) + 0))) rfl (j := 4) (by decide) (by decide) dL_plans_52 ?_
      refine zn_top (y := nI (N 4 + 0)) (upd_same _ _ _) ?_
      refine lv_icmp_eq (tgt := 71) hx hb dL_plans_53 (by decide) (fun h => absurd h (fun q => nn3 (by omega) q.symm)) (fun _ => ?_)
      refine lv_iload hx hb dL_plans_56 (lv_at hl9 0 rfl) ?_
      refine lv_ldc (v := (-1000003)) hx hb Z.1.2.2.2.1 (hts (.constant RL 28 (-1000003)) (by decide +kernel)) dL_plans_58 ?_
      refine lv_icmp_ne (tgt := 75) hx hb dL_plans_60 (by decide) (fun h => absurd h (by decide)) (fun _ => ?_)
      refine lv_aload_n hx hb dL_plans_63 rfl (lv_at hl9 3 rfl) ?_
      refine lv_iconst (v := 4) hx hb dL_plans_64 (by decide) ?_
      refine z_iald Z Mz9 0 (h0 := av 0) (n := 6) (f := upd ga 4 (nI ((N 4) + 0))) rfl (j := 4) (by decide) (by decide) dL_plans_65 ?_
      refine zn_top (y := nI (N 4 + 0)) (upd_same _ _ _) ?_
      refine lv_bipush (v := 12) hx hb dL_plans_66 (by decide) ?_
      refine zn_icmp_ne (a := N 4 + 0) (b := 12) (tgt := 75) (by omega) (by decide) hx hb dL_plans_68 (by decide) (fun h => absurd h (fun q => q (by omega))) (fun _ => ?_)
      refine lv_iconst (v := 1) hx hb dL_plans_71 (by decide) ?_
      refine lv_goto (tgt := 76) hx hb dL_plans_72 (by decide) ?_
      exact hret _ _ _ _ _ sl9 _ _ (⟨((J, ad, N, mst, bst, ρ), upd ga 4 (nI ((N 4) + 0)), ma, aa, ca, ta), ⟨(I_le (Nat.le_succ C) hI), (GR_4 hGr rfl), rfl⟩⟩) Mz9 rfl (rfl) rfl (by show _ ≤ 320; omega) (by show _ ≤ 4480; omega) dL_plans_76
theorem lm_plans (hfl : l.stackTraces = false) (hI : Inv C J N mst bst ρ aa ca) (hGr : GRc N ga) (x9 y9 : Int32) : ZIH l yL_plans wsL_plans mR9 (zX ea mi sa) D T (S := {Y : YS // PIc (C + 1) (ad 0) Y}) (lwR T av ga ma aa ca ta ++ iw J ad (hG ad T ea nof N mst bst ρ)) (fun Y => yW T ea av Y.1) [.ref (ad 0), .ref (av 0), .int x9, .int y9] 1 320 4480 := by
  obtain ⟨P, hP⟩ := PL_ex (I_Q hI)
  rcases hP.2 with h | h
  · exact lm_plans_u hfl hI hGr hP h x9 y9
  · exact lm_plans_d hfl hI hGr hP h x9 y9
end LAW4
