/-! ===== laid by program ===== -/
/-! ===== the house: the quench ===== -/
/-- whether all of a set can be quenched, from the k-th on -/
def cbq (B : Nat → Nat → Int32) (set : Int32) : Nat → Nat → Int32
  | 0, _ => 1
  | n + 1, k => if ush set (nI k) &&& 1 = 0 then cbq B set n (k + 1) else if B k 8 < 800 then 0 else if B k 12 = 0 then cbq B set n (k + 1) else 0
theorem cbq_n (B : Nat → Nat → Int32) (set : Int32) : ∀ n k, narrow .boolean (.int (cbq B set n k)) = .int (cbq B set n k)
  | 0, _ => by rw [cbq]; rfl
  | n + 1, k => by
    rw [cbq]
    split
    · exact cbq_n B set n (k + 1)
    · split
      · rfl
      · split
        · exact cbq_n B set n (k + 1)
        · rfl
/-- a billet that is plunged -/
noncomputable def plB (ld md : Int32) (α β : Nat → Int32) : Nat → Int32 := upd (upd (upd (upd (upd β 7 20) 8 20) 12 (if md = 0 then β 12 else if UE α = 0 then β 12 else 1)) 14 ld) 16 100
noncomputable def qG (ad : Nat → Nat) (T : Nat → ClassId) (set md ld : Int32) (st : Nat → Nat) (B Al K τ : Nat → Nat → Int32) (G : Nat → va_E) : Nat → (Nat → va_E)
  | 0 => G
  | n + 1 => if ush set (nI n) &&& 1 = 0 then qG ad T set md ld st B Al K τ G n else fun j => if j = 100 + 3 * n then .inr (1, biF (ad (101 + 3 * n)) (ad (102 + 3 * n)) (ad (2 + st n)) (plB ld md (Al n) (B n))) else if j = 102 + 3 * n then .inl (T 0, 8, .inl (QQ (Al n) (K n) 0 (τ (st n) 1) (τ (st n) 2) md)) else qG ad T set md ld st B Al K τ G n j
theorem qG_keep (ad : Nat → Nat) (T : Nat → ClassId) (set md ld : Int32) (st : Nat → Nat) (B Al K τ : Nat → Nat → Int32) (G : Nat → va_E) {j : Nat} : ∀ n, (∀ i, i < n → j ≠ 100 + 3 * i ∧ j ≠ 102 + 3 * i) → qG ad T set md ld st B Al K τ G n j = G j
  | 0, _ => rfl
  | n + 1, h => by
    rw [qG]
    have ih := qG_keep ad T set md ld st B Al K τ G n (fun i hi => h i (by omega))
    split
    · exact ih
    · show (if j = 100 + 3 * n then _ else if j = 102 + 3 * n then _ else qG ad T set md ld st B Al K τ G n j) = G j
      rw [if_neg (h n (Nat.lt_succ_self n)).1, if_neg (h n (Nat.lt_succ_self n)).2]
      exact ih
set_option maxHeartbeats 4000000 in
set_option maxRecDepth 100000 in
theorem ch_canBeQuenched (l : Launch) (D : va_G) (T : Nat → ClassId) (o : Nat) (ad : Nat → Nat) (lo : Int32) (kb : Int32) (rb n g : Nat) (fb : Nat → Option Nat) (set : Int32) (hg : g ≤ n) (hn : n ≤ 40000) (es : va_W) (hbf ab qb ub ix : Nat → Nat) (B : Nat → Nat → Int32) (hf : ∀ i, i < g → fb i = some (hbf i)) (hes : ∀ i, i < g → es[ix i]? = some (hbf i, .inr (1, biF (ab i) (qb i) (ub i) (B i)))) : ZI l yX5_canBeQuenched wsX5_canBeQuenched (zrm 3 64) D T ([(o, .inr (6, hsF ad lo)), (ad 7, .inr (0, [.int (kb), .ref rb, .int (nI (g))])), (rb, .inl (T 3, n, qa fb))] ++ es) ([(o, .inr (6, hsF ad lo)), (ad 7, .inr (0, [.int (kb), .ref rb, .int (nI (g))])), (rb, .inl (T 3, n, qa fb))] ++ es) [.ref o, .int (set)] (cbq B set g 0) 0 0 := by
  refine z_inI (cc := cX5_canBeQuenched) (maxL := 4) (rt := .boolean) (by decide +kernel) rfl (Nat.le_of_ble_eq_true rfl) ?_
  intro p e s m args below meth c sl9 A Q Z hnm Mz9 hl9 hret
  have Z : zC p s m args c cX5_canBeQuenched 4 RX5 wsX5_canBeQuenched D T A := Z
  have hx := Z.1.1
  have hb := Z.1.2.1
  have hts := Z.1.2.2.2.2
  have hin5 : ∀ w ∈ wsX50, w ∈ wsX5_canBeQuenched := by decide +kernel
  have hinL : ∀ w ∈ wsJx4a65c0, w ∈ wsX5_canBeQuenched := by decide +kernel
  have hin0 : ∀ w ∈ wsX00, w ∈ wsX5_canBeQuenched := by decide +kernel
  have L22 := hts (.fieldLink RX5 22 "AnvilHouse" "billets" "Ljava/util/ArrayList;") (by decide +kernel)
  have L110 := hts (.fieldLink RX5 110 "AnvilHouse$Billet" "core" "I") (by decide +kernel)
  have L125 := hts (.fieldLink RX5 125 "AnvilHouse$Billet" "cracked" "Z") (by decide +kernel)
  have hl9 : lv_has sl9 4 [(0, .ref o), (1, .int (set))] := hl9
  refine lv_iconst (v := 0) hx hb dX5_canBeQuenched_0 (by decide) ?_
  refine lv_istore_n (lv' := [(2, .int 0), (0, .ref o), (1, .int (set))]) hx hb dX5_canBeQuenched_1 rfl hl9 (by decide) rfl (fun sl9 hl9 => ?_)
  have LP2_1 : ∀ (n2 k : Nat), k + n2 = g → (∀ mm : Nat, k + mm = g → cbq B set g 0 = cbq B set mm (k)) → ∀ (Hp9 : Heap) (lc9 : List Loc) (sl9 : Array Slot), zM D A s.heap (([(o, .inr (6, hsF ad lo)), (ad 7, .inr (0, [.int (kb), .ref rb, .int (nI (g))])), (rb, .inl (T 3, n, qa fb))] ++ es)) Hp9 lc9 → lv_has sl9 4 [(0, .ref o), (1, .int (set)), (2, .int (nI (k)))] → W p l e (zrm 3 64) s m args below meth c Hp9 lc9 0 0 Q (F0 m 2 sl9 []) := by
    intro n2
    induction n2 with
    | zero =>
      intro k hk9 h90 Hp9 lc9 sl9 Mz9 hl9
      obtain rfl : g = k := by omega
      refine lv_iload_n hx hb dX5_canBeQuenched_2 rfl (lv_at hl9 2 rfl) ?_
      refine lv_aload_n hx hb dX5_canBeQuenched_3 rfl (lv_at hl9 0 rfl) ?_
      refine z_getf Z Mz9 hin5 0 rfl rfl 2 (by decide) L22 rfl (v := .ref (ad 7)) rfl dX5_canBeQuenched_4 ?_
      refine z_callVi (As := []) (rest := [.int (nI (g))]) (rv := nI (g)) (wc := leW (ad 7) (.ref rb) kb (nI (g))) (wc' := leW (ad 7) (.ref rb) kb (nI (g))) Z Mz9 (cl_size l D T (ad 7) (.ref rb) kb (nI (g))) (cwV 0 hts gX5_canBeQuenched_Jx4a65c_size_8abf5 rfl rfl rfl (by decide +kernel) ⟨Nat.le_of_ble_eq_true rfl, Nat.le_of_ble_eq_true rfl⟩) [1] rfl (by decide) (fun j hj => rfl) (Nat.le_refl _) (va_recv Z.2.1 Mz9.1 (ci := 0) (q0 := 1) rfl rfl) rfl hl9.1 (Nat.le_of_ble_eq_true rfl) dX5_canBeQuenched_7 ⟨Nat.le_of_ble_eq_true rfl, Nat.le_of_ble_eq_true rfl⟩ rfl (fun Hp9 lc9 Mz9 => ?_)
      have Mz9 : zM D A s.heap ([(o, .inr (6, hsF ad lo)), (ad 7, .inr (0, [.int (kb), .ref rb, .int (nI (g))])), (rb, .inl (T 3, n, qa fb))] ++ es) _ _ := zM_w (by simp only [z_put, List.append_nil]; rfl) Mz9
      refine zn_icmp_ge (a := g) (b := g) (tgt := 58) (by omega) (by omega) hx hb dX5_canBeQuenched_10 (by decide) (fun _ => ?_) (fun h => absurd h (by omega))
      refine lv_iconst (v := 1) hx hb dX5_canBeQuenched_58 (by decide) ?_
      exact hret _ _ _ _ _ sl9 _ _ Mz9 (rfl) (by rw [h90 0 (by omega)]; rfl) (rfl) (Nat.le_of_ble_eq_true rfl) (Nat.le_of_ble_eq_true rfl) dX5_canBeQuenched_59
    | succ n2 ih2 =>
      intro k hk9 h90 Hp9 lc9 sl9 Mz9 hl9
      refine lv_iload_n hx hb dX5_canBeQuenched_2 rfl (lv_at hl9 2 rfl) ?_
      refine lv_aload_n hx hb dX5_canBeQuenched_3 rfl (lv_at hl9 0 rfl) ?_
      refine z_getf Z Mz9 hin5 0 rfl rfl 2 (by decide) L22 rfl (v := .ref (ad 7)) rfl dX5_canBeQuenched_4 ?_
      refine z_callVi (As := []) (rest := [.int (nI (k))]) (rv := nI (g)) (wc := leW (ad 7) (.ref rb) kb (nI (g))) (wc' := leW (ad 7) (.ref rb) kb (nI (g))) Z Mz9 (cl_size l D T (ad 7) (.ref rb) kb (nI (g))) (cwV 0 hts gX5_canBeQuenched_Jx4a65c_size_8abf5 rfl rfl rfl (by decide +kernel) ⟨Nat.le_of_ble_eq_true rfl, Nat.le_of_ble_eq_true rfl⟩) [1] rfl (by decide) (fun j hj => rfl) (Nat.le_refl _) (va_recv Z.2.1 Mz9.1 (ci := 0) (q0 := 1) rfl rfl) rfl hl9.1 (Nat.le_of_ble_eq_true rfl) dX5_canBeQuenched_7 ⟨Nat.le_of_ble_eq_true rfl, Nat.le_of_ble_eq_true rfl⟩ rfl (fun Hp9 lc9 Mz9 => ?_)
      have Mz9 : zM D A s.heap ([(o, .inr (6, hsF ad lo)), (ad 7, .inr (0, [.int (kb), .ref rb, .int (nI (g))])), (rb, .inl (T 3, n, qa fb))] ++ es) _ _ := zM_w (by simp only [z_put, List.append_nil]; rfl) Mz9
      refine zn_icmp_ge (a := k) (b := g) (tgt := 58) (by omega) (by omega) hx hb dX5_canBeQuenched_10 (by decide) (fun h => absurd h (by omega)) (fun _ => ?_)
      refine lv_aload_n hx hb dX5_canBeQuenched_13 rfl (lv_at hl9 0 rfl) ?_
      refine z_getf Z Mz9 hin5 0 rfl rfl 2 (by decide) L22 rfl (v := .ref (ad 7)) rfl dX5_canBeQuenched_14 ?_
      refine lv_iload_n hx hb dX5_canBeQuenched_17 rfl (lv_at hl9 2 rfl) ?_
      refine z_callVr (As := [.int (nI (k))]) (rest := []) (wc := liW (ad 7) rb n T kb (nI (g)) fb) Z Mz9 (cl_get l D T (ad 7) rb n (k) (hbf k) g kb fb (by omega) hg (by omega) (hf k (by omega))) (cwV 1 hts gX5_canBeQuenched_Jx4a65c_get_915e3 rfl rfl rfl (by decide +kernel) ⟨Nat.le_of_ble_eq_true rfl, Nat.le_of_ble_eq_true rfl⟩) [1, 2] rfl (by decide) (fun _ j hj => rfl) (fun _ => Nat.le_refl _) (va_recv Z.2.1 Mz9.1 (ci := 0) (q0 := 1) rfl rfl) rfl hl9.1 (Nat.le_of_ble_eq_true rfl) dX5_canBeQuenched_18 ⟨Nat.le_of_ble_eq_true rfl, Nat.le_of_ble_eq_true rfl⟩ rfl (fun _ Hp9 lc9 Mz9 => ?_)
      have Mz9 : zM D A s.heap ([(o, .inr (6, hsF ad lo)), (ad 7, .inr (0, [.int (kb), .ref rb, .int (nI (g))])), (rb, .inl (T 3, n, qa fb))] ++ es) _ _ := zM_w (by simp only [z_put, List.append_nil]; rfl) Mz9
      refine va_castS hx hb Z.1.2.2.2.1 (hts (.classLink RX5 94 RX0) (by decide +kernel)) (Z.2.1.1 1 (RX0, TX0, 18) rfl).2 (va_recv Z.2.1 Mz9.1 (ci := 1) (q0 := ix (k) + 3) rfl (show (([(o, .inr (6, hsF ad lo)), (ad 7, .inr (0, [.int (kb), .ref rb, .int (nI (g))])), (rb, .inl (T 3, n, qa fb))] ++ es))[ix (k) + 3]? = _ from hes (k) (by omega))) dX5_canBeQuenched_21 ?_
      refine lv_astore_n (lv' := [(3, .ref (hbf k)), (0, .ref o), (1, .int (set)), (2, .int (nI (k)))]) hx hb dX5_canBeQuenched_24 rfl hl9 (by decide) rfl (fun sl9 hl9 => ?_)
      refine lv_iload_n hx hb dX5_canBeQuenched_25 rfl (lv_at hl9 2 rfl) ?_
      refine lv_iload_n hx hb dX5_canBeQuenched_26 rfl (lv_at hl9 3 rfl) ?_
      refine z_callSi (As := [.int (set), .int (nI (k))]) (rest := []) Z.1 (cs_isInSet l set (nI (k))) (va_cwS 2 hts gX5_canBeQuenched_X5_isInSet rfl rfl rfl (by decide +kernel) ⟨Nat.le_of_ble_eq_true rfl, Nat.le_of_ble_eq_true rfl⟩) rfl hl9.1 (Nat.le_of_ble_eq_true rfl) dX5_canBeQuenched_27 ⟨Nat.le_of_ble_eq_true rfl, Nat.le_of_ble_eq_true rfl⟩ rfl ?_
      rcases Classical.em (ush set (nI (k)) &&& 1 = 0) with c1 | c1
      ·
        refine zn_top (y := 0) (if_pos c1) ?_
        refine lv_if_eq (tgt := 52) hx hb dX5_canBeQuenched_30 (by decide) (fun _ => ?_) (fun h => absurd h (by decide))
        refine lv_iinc (v := nI (k + 1)) (lv' := [(2, .int (nI (k + 1))), (3, .ref (hbf k)), (0, .ref o), (1, .int (set))]) hx hb dX5_canBeQuenched_52 hl9 (k := 3) rfl (nI_add (k) 1) (by decide) rfl (fun sl9 hl9 => ?_)
        refine lv_goto (tgt := 2) hx hb dX5_canBeQuenched_55 (by decide) ?_
        exact ih2 (k + 1) (by omega) (fun mm hmm => by rw [h90 (mm + 1) (by omega), cbq]; simp only [if_pos c1]) _ _ _ Mz9 (lv_sub hl9 [2, 3, 0] rfl)
      ·
        refine zn_top (y := 1) (if_neg c1) ?_
        refine lv_if_eq (tgt := 52) hx hb dX5_canBeQuenched_30 (by decide) (fun h => absurd h (by decide)) (fun _ => ?_)
        refine lv_aload_n hx hb dX5_canBeQuenched_33 rfl (lv_at hl9 0 rfl) ?_
        refine z_getf Z Mz9 hin0 (ix k + 3) (show (([(o, .inr (6, hsF ad lo)), (ad 7, .inr (0, [.int (kb), .ref rb, .int (nI (g))])), (rb, .inl (T 3, n, qa fb))] ++ es))[ix k + 3]? = _ from hes k (by omega)) rfl 8 (by decide) L110 rfl (v := .int (B k 8)) rfl dX5_canBeQuenched_34 ?_
        refine lv_sipush (v := 800) hx hb dX5_canBeQuenched_37 (by decide) ?_
        refine lv_icmp_lt (tgt := 50) hx hb dX5_canBeQuenched_40 (by decide) (fun c_1 => ?_) (fun c_1 => ?_)
        ·
          refine lv_iconst (v := 0) hx hb dX5_canBeQuenched_50 (by decide) ?_
          exact hret _ _ _ _ _ sl9 _ _ Mz9 (rfl) (by rw [h90 (n2 + 1) (by omega), cbq]; simp only [if_neg c1, if_pos c_1]) (rfl) (Nat.le_of_ble_eq_true rfl) (Nat.le_of_ble_eq_true rfl) dX5_canBeQuenched_51
        ·
          refine lv_aload_n hx hb dX5_canBeQuenched_43 rfl (lv_at hl9 0 rfl) ?_
          refine z_getf Z Mz9 hin0 (ix k + 3) (show (([(o, .inr (6, hsF ad lo)), (ad 7, .inr (0, [.int (kb), .ref rb, .int (nI (g))])), (rb, .inl (T 3, n, qa fb))] ++ es))[ix k + 3]? = _ from hes k (by omega)) rfl 12 (by decide) L125 rfl (v := .int (B k 12)) rfl dX5_canBeQuenched_44 ?_
          refine lv_if_eq (tgt := 52) hx hb dX5_canBeQuenched_47 (by decide) (fun c_2 => ?_) (fun c_2 => ?_)
          ·
            refine lv_iinc (v := nI (k + 1)) (lv' := [(2, .int (nI (k + 1))), (3, .ref (hbf k)), (0, .ref o), (1, .int (set))]) hx hb dX5_canBeQuenched_52 hl9 (k := 3) rfl (nI_add (k) 1) (by decide) rfl (fun sl9 hl9 => ?_)
            refine lv_goto (tgt := 2) hx hb dX5_canBeQuenched_55 (by decide) ?_
            exact ih2 (k + 1) (by omega) (fun mm hmm => by rw [h90 (mm + 1) (by omega), cbq]; simp only [if_neg c1, if_neg c_1, if_pos c_2]) _ _ _ Mz9 (lv_sub hl9 [2, 3, 0] rfl)
          ·
            refine lv_iconst (v := 0) hx hb dX5_canBeQuenched_50 (by decide) ?_
            exact hret _ _ _ _ _ sl9 _ _ Mz9 (rfl) (by rw [h90 (n2 + 1) (by omega), cbq]; simp only [if_neg c1, if_neg c_1, if_neg c_2]) (rfl) (Nat.le_of_ble_eq_true rfl) (Nat.le_of_ble_eq_true rfl) dX5_canBeQuenched_51
  exact LP2_1 (g - 0) (0) (by omega) (fun mm hmm => by rw [show mm = g by omega]) _ _ _ Mz9 (lv_sub hl9 [1, 2, 0] rfl)
