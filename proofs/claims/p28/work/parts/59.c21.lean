/-! ===== laid by program ===== -/
/-! ===== the house: the quench, all of a set ===== -/
section ZQ
variable {ad : Nat → Nat} {T : Nat → ClassId} {set md ld : Int32} {st : Nat → Nat} {B Al K τ : Nat → Nat → Int32} {G : Nat → va_E} {J : List Nat} {g : Nat}
theorem q_pl (pre : va_W) (hJ : J.Nodup) (hJ0 : ∀ i, i < g → 100 + 3 * i ∈ J ∧ 101 + 3 * i ∈ J ∧ 102 + 3 * i ∈ J ∧ 2 + st i ∈ J) (hst : ∀ i, i < g → st i < 4)
    (hGb : ∀ i, i < g → G (100 + 3 * i) = .inr (1, biF (ad (101 + 3 * i)) (ad (102 + 3 * i)) (ad (2 + st i)) (B i))) (hGa : ∀ i, i < g → G (101 + 3 * i) = .inl (T 0, 8, .inl (Al i))) (hGq : ∀ i, i < g → G (102 + 3 * i) = .inl (T 0, 8, .inl (K i))) (hGs : ∀ i, i < g → G (2 + st i) = .inr (5, [.int (τ (st i) 0), .int (τ (st i) 1), .int (τ (st i) 2)]))
    {k : Nat} (hk : k < g) (hin : ¬ ush set (nI k) &&& 1 = 0) :
    ∃ is : List Nat, is.map (fun i => (pre ++ iw J ad (qG ad T set md ld st B Al K τ G k))[i]?) = (biW (ad (100 + 3 * k)) (ad (101 + 3 * k)) (ad (102 + 3 * k)) (ad (2 + st k)) T (B k) (Al k) (K k) (τ (st k))).map some ∧ va_nd is = true ∧
      z_put (pre ++ iw J ad (qG ad T set md ld st B Al K τ G k)) is (biW (ad (100 + 3 * k)) (ad (101 + 3 * k)) (ad (102 + 3 * k)) (ad (2 + st k)) T (plB ld md (Al k) (B k)) (Al k) (QQ (Al k) (K k) 0 (τ (st k) 1) (τ (st k) 2) md) (τ (st k))) = pre ++ iw J ad (qG ad T set md ld st B Al K τ G (k + 1)) := by
  have s4 := hst k hk
  obtain ⟨j1, j2, j3, j4⟩ := hJ0 k hk
  obtain ⟨is, h1, h2, h3⟩ := iw_places pre (js := [100 + 3 * k, 101 + 3 * k, 102 + 3 * k, 2 + st k]) hJ (by
      refine List.nodup_cons.mpr ⟨?_, List.nodup_cons.mpr ⟨?_, List.nodup_cons.mpr ⟨?_, List.nodup_cons.mpr ⟨List.not_mem_nil, List.nodup_nil⟩⟩⟩⟩ <;> (simp only [List.mem_cons, List.not_mem_nil, or_false]; omega)) (by
      intro j hj
      simp only [List.mem_cons, List.not_mem_nil, or_false] at hj
      rcases hj with h | h | h | h <;> subst h <;> assumption) ad (qG ad T set md ld st B Al K τ G k)
  have e1 := (qG_keep ad T set md ld st B Al K τ G (j := 100 + 3 * k) k (fun i hi => ⟨by omega, by omega⟩)).trans (hGb k hk)
  have e2 := (qG_keep ad T set md ld st B Al K τ G (j := 101 + 3 * k) k (fun i hi => ⟨by omega, by omega⟩)).trans (hGa k hk)
  have e3 := (qG_keep ad T set md ld st B Al K τ G (j := 102 + 3 * k) k (fun i hi => ⟨by omega, by omega⟩)).trans (hGq k hk)
  have e4 := (qG_keep ad T set md ld st B Al K τ G (j := 2 + st k) k (fun i hi => ⟨by omega, by omega⟩)).trans (hGs k hk)
  have hb : iw [100 + 3 * k, 101 + 3 * k, 102 + 3 * k, 2 + st k] ad (qG ad T set md ld st B Al K τ G k) = biW (ad (100 + 3 * k)) (ad (101 + 3 * k)) (ad (102 + 3 * k)) (ad (2 + st k)) T (B k) (Al k) (K k) (τ (st k)) := by
    show [(ad (100 + 3 * k), qG ad T set md ld st B Al K τ G k (100 + 3 * k)), (ad (101 + 3 * k), qG ad T set md ld st B Al K τ G k (101 + 3 * k)), (ad (102 + 3 * k), qG ad T set md ld st B Al K τ G k (102 + 3 * k)), (ad (2 + st k), qG ad T set md ld st B Al K τ G k (2 + st k))] = _
    rw [e1, e2, e3, e4]
  have q0 : ∀ j, qG ad T set md ld st B Al K τ G (k + 1) j = if j = 100 + 3 * k then .inr (1, biF (ad (101 + 3 * k)) (ad (102 + 3 * k)) (ad (2 + st k)) (plB ld md (Al k) (B k))) else if j = 102 + 3 * k then .inl (T 0, 8, .inl (QQ (Al k) (K k) 0 (τ (st k) 1) (τ (st k) 2) md)) else qG ad T set md ld st B Al K τ G k j := by
    intro j
    rw [qG, if_neg hin]
  have hb2 : iw [100 + 3 * k, 101 + 3 * k, 102 + 3 * k, 2 + st k] ad (qG ad T set md ld st B Al K τ G (k + 1)) = biW (ad (100 + 3 * k)) (ad (101 + 3 * k)) (ad (102 + 3 * k)) (ad (2 + st k)) T (plB ld md (Al k) (B k)) (Al k) (QQ (Al k) (K k) 0 (τ (st k) 1) (τ (st k) 2) md) (τ (st k)) := by
    show [(ad (100 + 3 * k), qG ad T set md ld st B Al K τ G (k + 1) (100 + 3 * k)), (ad (101 + 3 * k), qG ad T set md ld st B Al K τ G (k + 1) (101 + 3 * k)), (ad (102 + 3 * k), qG ad T set md ld st B Al K τ G (k + 1) (102 + 3 * k)), (ad (2 + st k), qG ad T set md ld st B Al K τ G (k + 1) (2 + st k))] = _
    rw [q0, q0, q0, q0, if_pos rfl, if_neg (show ¬ 101 + 3 * k = 100 + 3 * k by omega), if_neg (show ¬ 101 + 3 * k = 102 + 3 * k by omega), if_neg (show ¬ 102 + 3 * k = 100 + 3 * k by omega), if_pos rfl, if_neg (show ¬ 2 + st k = 100 + 3 * k by omega), if_neg (show ¬ 2 + st k = 102 + 3 * k by omega), e2, e4]
  rw [hb] at h1
  refine ⟨is, h1, h2, ?_⟩
  have h4 := h3 (qG ad T set md ld st B Al K τ G (k + 1)) [] (fun j hj hn => by
    rw [q0, if_neg (fun e => hn (by rw [e]; exact List.mem_cons_self)), if_neg (fun e => hn (by rw [e]; exact List.mem_cons_of_mem _ (List.mem_cons_of_mem _ List.mem_cons_self)))])
  rw [List.append_nil, List.append_nil, hb2] at h4
  exact h4
end ZQ
set_option maxHeartbeats 4000000 in
set_option maxRecDepth 100000 in
theorem ch_quench_0 (l : Launch) (D : va_G) (T : Nat → ClassId) (ea mi : Nat) (sa : Nat → Nat) (o : Nat) (ad : Nat → Nat) (kb : Int32) (rb n g : Nat) (fb : Nat → Option Nat) (nl : Nat) (h20 : nl < 20) (set : Int32) (hg : g ≤ n) (hn : n ≤ 40000) (J : List Nat) (G : Nat → va_E) (st : Nat → Nat) (B Al K τ : Nat → Nat → Int32) (hf : ∀ i, i < g → fb i = some (ad (100 + 3 * i))) (hJ : J.Nodup) (hJ0 : ∀ i, i < g → 100 + 3 * i ∈ J ∧ 101 + 3 * i ∈ J ∧ 102 + 3 * i ∈ J ∧ 2 + st i ∈ J) (hst : ∀ i, i < g → st i < 4) (hGb : ∀ i, i < g → G (100 + 3 * i) = .inr (1, biF (ad (101 + 3 * i)) (ad (102 + 3 * i)) (ad (2 + st i)) (B i))) (hGa : ∀ i, i < g → G (101 + 3 * i) = .inl (T 0, 8, .inl (Al i))) (hGq : ∀ i, i < g → G (102 + 3 * i) = .inl (T 0, 8, .inl (K i))) (hGs : ∀ i, i < g → G (2 + st i) = .inr (5, [.int (τ (st i) 0), .int (τ (st i) 1), .int (τ (st i) 2)])) (h0 : ¬ set = 0) (hs : ush set (nI g) = 0) (hq : ¬ cbq B set g 0 = 0) : ZIH l yX5_quench wsX5_quench (zrm 4 87) (zW ea mi sa) D T (S := Unit) ([(o, .inr (6, hsF ad (nI (nl)))), (ad 7, .inr (0, [.int (kb), .ref rb, .int (nI (g))])), (rb, .inl (T 3, n, qa fb))] ++ (iw J ad G)) (fun _ => ([(o, .inr (6, hsF ad (nI (nl + 1)))), (ad 7, .inr (0, [.int (kb), .ref rb, .int (nI (g))])), (rb, .inl (T 3, n, qa fb))] ++ (iw J ad (qG ad T set 0 (nI nl) st B Al K τ G (g))))) [.ref o, .int (set), .int 0] (nI nl) 0 0 := by
  refine z_inIH (cc := cX5_quench) (maxL := 5) (rt := .int) (by decide +kernel) rfl (Nat.le_of_ble_eq_true rfl) ?_
  intro p e s m args below meth c sl9 A Q Z hW hnm Mz9 hl9 hret
  have Z : zC p s m args c cX5_quench 5 RX5 wsX5_quench D T A := Z
  have hx := Z.1.1
  have hb := Z.1.2.1
  have hts := Z.1.2.2.2.2
  have hin5 : ∀ w ∈ wsX50, w ∈ wsX5_quench := by decide +kernel
  have hinL : ∀ w ∈ wsJx4a65c0, w ∈ wsX5_quench := by decide +kernel
  have hin0 : ∀ w ∈ wsX00, w ∈ wsX5_quench := by decide +kernel
  have hin4 : ∀ w ∈ wsX40, w ∈ wsX5_quench := by decide +kernel
  have L22 := hts (.fieldLink RX5 22 "AnvilHouse" "billets" "Ljava/util/ArrayList;") (by decide +kernel)
  have L231 := hts (.fieldLink RX5 231 "AnvilHouse" "loads" "I") (by decide +kernel)
  have hl9 : lv_has sl9 5 [(0, .ref o), (1, .int (set)), (2, .int 0)] := hl9
  refine lv_iload_n hx hb dX5_quench_0 rfl (lv_at hl9 1 rfl) ?_
  refine lv_if_ne (tgt := 14) hx hb dX5_quench_1 (by decide) (fun _ => ?_) (fun h => absurd h (h0))
  refine lv_iload_n hx hb dX5_quench_14 rfl (lv_at hl9 1 rfl) ?_
  refine lv_aload_n hx hb dX5_quench_15 rfl (lv_at hl9 0 rfl) ?_
  refine z_getf Z Mz9 hin5 0 rfl rfl 2 (by decide) L22 rfl (v := .ref (ad 7)) rfl dX5_quench_16 ?_
  refine z_callVi (As := []) (rest := [.int (set)]) (rv := nI (g)) (wc := leW (ad 7) (.ref rb) kb (nI (g))) (wc' := leW (ad 7) (.ref rb) kb (nI (g))) Z Mz9 (cl_size l D T (ad 7) (.ref rb) kb (nI (g))) (cwV 0 hts gX5_quench_Jx4a65c_size_8abf5 rfl rfl rfl (by decide +kernel) ⟨Nat.le_of_ble_eq_true rfl, Nat.le_of_ble_eq_true rfl⟩) [1] rfl (by decide) (fun j hj => rfl) (Nat.le_refl _) (va_recv Z.2.1 Mz9.1 (ci := 0) (q0 := 1) rfl rfl) rfl hl9.1 (Nat.le_of_ble_eq_true rfl) dX5_quench_19 ⟨Nat.le_of_ble_eq_true rfl, Nat.le_of_ble_eq_true rfl⟩ rfl (fun Hp9 lc9 Mz9 => ?_)
  have Mz9 : zM D A s.heap ([(o, .inr (6, hsF ad (nI (nl)))), (ad 7, .inr (0, [.int (kb), .ref rb, .int (nI (g))])), (rb, .inl (T 3, n, qa fb))] ++ (iw J ad G)) _ _ := zM_w (by simp only [z_put, List.append_nil]; rfl) Mz9
  refine lv_iushr (v := (set.toUInt32 >>> ((nI (g)).toUInt32 &&& Int32.toUInt32 31)).toInt32) hx hb dX5_quench_22 rfl ?_
  refine lv_if_eq (tgt := 36) hx hb dX5_quench_23 (by decide) (fun _ => ?_) (fun h => absurd h (fun z => z hs))
  refine lv_iload_n hx hb dX5_quench_36 rfl (lv_at hl9 2 rfl) ?_
  refine lv_if_eq (tgt := 55) hx hb dX5_quench_37 (by decide) (fun _ => ?_) (fun h => absurd h (by decide))
  refine lv_aload_n hx hb dX5_quench_55 rfl (lv_at hl9 0 rfl) ?_
  refine lv_iload_n hx hb dX5_quench_56 rfl (lv_at hl9 1 rfl) ?_
  refine z_callAi (As := [.int (set)]) (rest := []) (rv := cbq B set g 0) (wc' := ([(o, .inr (6, hsF ad (nI (nl)))), (ad 7, .inr (0, [.int (kb), .ref rb, .int (nI (g))])), (rb, .inl (T 3, n, qa fb))] ++ (iw J ad G))) Z Mz9 (ch_canBeQuenched l D T o ad (nI (nl)) kb rb n g fb set hg hn (iw J ad G) (fun i => ad (100 + 3 * i)) (fun i => ad (101 + 3 * i)) (fun i => ad (102 + 3 * i)) (fun i => ad (2 + st i)) (fun i => J.idxOf (100 + 3 * i)) B hf (fun i hi => (iw_get (idx_at (hJ0 i hi).1)).trans (by rw [hGb i hi]))) (cwV 1 hts gX5_quench_X5_canBeQuenched rfl rfl rfl (by decide +kernel) ⟨Nat.le_of_ble_eq_true rfl, Nat.le_of_ble_eq_true rfl⟩) (va_recv Z.2.1 Mz9.1 (ci := 6) (q0 := 0) rfl rfl) rfl hl9.1 (Nat.le_of_ble_eq_true rfl) dX5_quench_57 ⟨Nat.le_of_ble_eq_true rfl, Nat.le_of_ble_eq_true rfl⟩ rfl (fun Hp9 lc9 Mz9 => ?_)
  refine lv_if_ne (tgt := 73) hx hb dX5_quench_60 (by decide) (fun _ => ?_) (fun h => absurd h (hq))
  refine lv_aload_n hx hb dX5_quench_73 rfl (lv_at hl9 0 rfl) ?_
  refine z_getf Z Mz9 hin5 0 rfl rfl 5 (by decide) L231 rfl (v := .int (nI (nl))) rfl dX5_quench_74 ?_
  refine lv_bipush (v := 20) hx hb dX5_quench_77 (by decide) ?_
  refine zn_icmp_lt (a := nl) (b := 20) (tgt := 92) (by omega) (by decide) hx hb dX5_quench_79 (by decide) (fun _ => ?_) (fun h => absurd h (by omega))
  refine lv_aload_n hx hb dX5_quench_92 rfl (lv_at hl9 0 rfl) ?_
  refine z_getf Z Mz9 hin5 0 rfl rfl 5 (by decide) L231 rfl (v := .int (nI (nl))) rfl dX5_quench_93 ?_
  refine lv_istore_n (lv' := [(3, .int (nI (nl))), (0, .ref o), (1, .int (set)), (2, .int 0)]) hx hb dX5_quench_96 rfl hl9 (by decide) rfl (fun sl9 hl9 => ?_)
  refine lv_aload_n hx hb dX5_quench_97 rfl (lv_at hl9 1 rfl) ?_
  refine lv_dup hx hb dX5_quench_98 rfl ?_
  refine z_getf Z Mz9 hin5 0 rfl rfl 5 (by decide) L231 rfl (v := .int (nI (nl))) rfl dX5_quench_99 ?_
  refine lv_iconst (v := 1) hx hb dX5_quench_102 (by decide) ?_
  refine zn_iadd (a := nl) (b := 1) hx hb dX5_quench_103 ?_
  refine z_putf Z Mz9 hin5 tyX5 tyX5_ok nmX5 0 rfl rfl 5 (by decide) L231 rfl rfl (ty := .int) rfl rfl rfl (Nat.le_of_ble_eq_true rfl) (ws' := ([(o, .inr (6, hsF ad (nI (nl + 1)))), (ad 7, .inr (0, [.int (kb), .ref rb, .int (nI (g))])), (rb, .inl (T 3, n, qa fb))] ++ (iw J ad G))) rfl dX5_quench_104 (fun Hp9 lc9 Mz9 => ?_)
  refine lv_iconst (v := 0) hx hb dX5_quench_107 (by decide) ?_
  refine lv_istore (lv' := [(4, .int 0), (3, .int (nI (nl))), (0, .ref o), (1, .int (set)), (2, .int 0)]) hx hb dX5_quench_108 hl9 (by decide) rfl (fun sl9 hl9 => ?_)
  have LP110_1 : ∀ (n110 k : Nat), k + n110 = g → ∀ (Hp9 : Heap) (lc9 : List Loc) (sl9 : Array Slot), zM D A s.heap (([(o, .inr (6, hsF ad (nI (nl + 1)))), (ad 7, .inr (0, [.int (kb), .ref rb, .int (nI (g))])), (rb, .inl (T 3, n, qa fb))] ++ (iw J ad (qG ad T set 0 (nI nl) st B Al K τ G (k))))) Hp9 lc9 → lv_has sl9 5 [(0, .ref o), (1, .int (set)), (2, .int 0), (3, .int (nI (nl))), (4, .int (nI (k)))] → W p l e (zrm 4 87) s m args below meth c Hp9 lc9 0 0 Q (F0 m 110 sl9 []) := by
    intro n110
    induction n110 with
    | zero =>
      intro k hk9 Hp9 lc9 sl9 Mz9 hl9
      obtain rfl : g = k := by omega
      refine lv_iload hx hb dX5_quench_110 (lv_at hl9 4 rfl) ?_
      refine lv_aload_n hx hb dX5_quench_112 rfl (lv_at hl9 0 rfl) ?_
      refine z_getf Z Mz9 hin5 0 rfl rfl 2 (by decide) L22 rfl (v := .ref (ad 7)) rfl dX5_quench_113 ?_
      refine z_callVi (As := []) (rest := [.int (nI (g))]) (rv := nI (g)) (wc := leW (ad 7) (.ref rb) kb (nI (g))) (wc' := leW (ad 7) (.ref rb) kb (nI (g))) Z Mz9 (cl_size l D T (ad 7) (.ref rb) kb (nI (g))) (cwV 0 hts gX5_quench_Jx4a65c_size_8abf5 rfl rfl rfl (by decide +kernel) ⟨Nat.le_of_ble_eq_true rfl, Nat.le_of_ble_eq_true rfl⟩) [1] rfl (by decide) (fun j hj => rfl) (Nat.le_refl _) (va_recv Z.2.1 Mz9.1 (ci := 0) (q0 := 1) rfl rfl) rfl hl9.1 (Nat.le_of_ble_eq_true rfl) dX5_quench_116 ⟨Nat.le_of_ble_eq_true rfl, Nat.le_of_ble_eq_true rfl⟩ rfl (fun Hp9 lc9 Mz9 => ?_)
      have Mz9 : zM D A s.heap ([(o, .inr (6, hsF ad (nI (nl + 1)))), (ad 7, .inr (0, [.int (kb), .ref rb, .int (nI (g))])), (rb, .inl (T 3, n, qa fb))] ++ (iw J ad (qG ad T set 0 (nI nl) st B Al K τ G (g)))) _ _ := zM_w (by simp only [z_put, List.append_nil]; rfl) Mz9
      refine zn_icmp_ge (a := g) (b := g) (tgt := 163) (by omega) (by omega) hx hb dX5_quench_119 (by decide) (fun _ => ?_) (fun h => absurd h (by omega))
      refine lv_iload_n hx hb dX5_quench_163 rfl (lv_at hl9 3 rfl) ?_
      exact hret _ _ _ _ _ sl9 _ _ () Mz9 (rfl) (rfl) (rfl) (Nat.le_of_ble_eq_true rfl) (Nat.le_of_ble_eq_true rfl) dX5_quench_164
    | succ n110 ih110 =>
      intro k hk9 Hp9 lc9 sl9 Mz9 hl9
      refine lv_iload hx hb dX5_quench_110 (lv_at hl9 4 rfl) ?_
      refine lv_aload_n hx hb dX5_quench_112 rfl (lv_at hl9 0 rfl) ?_
      refine z_getf Z Mz9 hin5 0 rfl rfl 2 (by decide) L22 rfl (v := .ref (ad 7)) rfl dX5_quench_113 ?_
      refine z_callVi (As := []) (rest := [.int (nI (k))]) (rv := nI (g)) (wc := leW (ad 7) (.ref rb) kb (nI (g))) (wc' := leW (ad 7) (.ref rb) kb (nI (g))) Z Mz9 (cl_size l D T (ad 7) (.ref rb) kb (nI (g))) (cwV 0 hts gX5_quench_Jx4a65c_size_8abf5 rfl rfl rfl (by decide +kernel) ⟨Nat.le_of_ble_eq_true rfl, Nat.le_of_ble_eq_true rfl⟩) [1] rfl (by decide) (fun j hj => rfl) (Nat.le_refl _) (va_recv Z.2.1 Mz9.1 (ci := 0) (q0 := 1) rfl rfl) rfl hl9.1 (Nat.le_of_ble_eq_true rfl) dX5_quench_116 ⟨Nat.le_of_ble_eq_true rfl, Nat.le_of_ble_eq_true rfl⟩ rfl (fun Hp9 lc9 Mz9 => ?_)
      have Mz9 : zM D A s.heap ([(o, .inr (6, hsF ad (nI (nl + 1)))), (ad 7, .inr (0, [.int (kb), .ref rb, .int (nI (g))])), (rb, .inl (T 3, n, qa fb))] ++ (iw J ad (qG ad T set 0 (nI nl) st B Al K τ G (k)))) _ _ := zM_w (by simp only [z_put, List.append_nil]; rfl) Mz9
      refine zn_icmp_ge (a := k) (b := g) (tgt := 163) (by omega) (by omega) hx hb dX5_quench_119 (by decide) (fun h => absurd h (by omega)) (fun _ => ?_)
      refine lv_iload_n hx hb dX5_quench_122 rfl (lv_at hl9 1 rfl) ?_
      refine lv_iload hx hb dX5_quench_123 (lv_at hl9 4 rfl) ?_
      refine z_callSi (As := [.int (set), .int (nI (k))]) (rest := []) Z.1 (cs_isInSet l set (nI (k))) (va_cwS 2 hts gX5_quench_X5_isInSet rfl rfl rfl (by decide +kernel) ⟨Nat.le_of_ble_eq_true rfl, Nat.le_of_ble_eq_true rfl⟩) rfl hl9.1 (Nat.le_of_ble_eq_true rfl) dX5_quench_125 ⟨Nat.le_of_ble_eq_true rfl, Nat.le_of_ble_eq_true rfl⟩ rfl ?_
      rcases Classical.em (ush set (nI (k)) &&& 1 = 0) with c1 | c1
      ·
        refine zn_top (y := 0) (if_pos c1) ?_
        refine lv_if_eq (tgt := 157) hx hb dX5_quench_128 (by decide) (fun _ => ?_) (fun h => absurd h (by decide))
        refine lv_iinc (v := nI (k + 1)) (lv' := [(4, .int (nI (k + 1))), (0, .ref o), (1, .int (set)), (2, .int 0), (3, .int (nI (nl)))]) hx hb dX5_quench_157 hl9 (k := 4) rfl (nI_add (k) 1) (by decide) rfl (fun sl9 hl9 => ?_)
        refine lv_goto (tgt := 110) hx hb dX5_quench_160 (by decide) ?_
        exact ih110 (k + 1) (by omega)  _ _ _ (zM_w (by simp only [qG, if_pos c1]) Mz9) (lv_sub hl9 [1, 2, 3, 4, 0] rfl)
      ·
        refine zn_top (y := 1) (if_neg c1) ?_
        refine lv_if_eq (tgt := 157) hx hb dX5_quench_128 (by decide) (fun h => absurd h (by decide)) (fun _ => ?_)
        refine lv_aload_n hx hb dX5_quench_131 rfl (lv_at hl9 0 rfl) ?_
        refine z_getf Z Mz9 hin5 0 rfl rfl 2 (by decide) L22 rfl (v := .ref (ad 7)) rfl dX5_quench_132 ?_
        refine lv_iload hx hb dX5_quench_135 (lv_at hl9 4 rfl) ?_
        refine z_callVr (As := [.int (nI (k))]) (rest := []) (wc := liW (ad 7) rb n T kb (nI (g)) fb) Z Mz9 (cl_get l D T (ad 7) rb n (k) (ad (100 + 3 * k)) g kb fb (by omega) hg (by omega) (hf k (by omega))) (cwV 1 hts gX5_quench_Jx4a65c_get_915e3 rfl rfl rfl (by decide +kernel) ⟨Nat.le_of_ble_eq_true rfl, Nat.le_of_ble_eq_true rfl⟩) [1, 2] rfl (by decide) (fun _ j hj => rfl) (fun _ => Nat.le_refl _) (va_recv Z.2.1 Mz9.1 (ci := 0) (q0 := 1) rfl rfl) rfl hl9.1 (Nat.le_of_ble_eq_true rfl) dX5_quench_137 ⟨Nat.le_of_ble_eq_true rfl, Nat.le_of_ble_eq_true rfl⟩ rfl (fun _ Hp9 lc9 Mz9 => ?_)
        have Mz9 : zM D A s.heap ([(o, .inr (6, hsF ad (nI (nl + 1)))), (ad 7, .inr (0, [.int (kb), .ref rb, .int (nI (g))])), (rb, .inl (T 3, n, qa fb))] ++ (iw J ad (qG ad T set 0 (nI nl) st B Al K τ G (k)))) _ _ := zM_w (by simp only [z_put, List.append_nil]; rfl) Mz9
        refine va_castS hx hb Z.1.2.2.2.1 (hts (.classLink RX5 94 RX0) (by decide +kernel)) (Z.2.1.1 1 (RX0, TX0, 18) rfl).2 (va_recv Z.2.1 Mz9.1 (ci := 1) (q0 := J.idxOf (100 + 3 * k) + 3) rfl (show (([(o, .inr (6, hsF ad (nI (nl + 1)))), (ad 7, .inr (0, [.int (kb), .ref rb, .int (nI (g))])), (rb, .inl (T 3, n, qa fb))] ++ (iw J ad (qG ad T set 0 (nI nl) st B Al K τ G (k)))))[J.idxOf (100 + 3 * k) + 3]? = some (ad (100 + 3 * k), .inr (1, biF (ad (101 + 3 * k)) (ad (102 + 3 * k)) (ad (2 + st k)) (B k))) from (iw_get (idx_at (hJ0 k (by omega)).1)).trans (by rw [qG_keep ad T set _ _ st B Al K τ G (j := 100 + 3 * k) k (fun i hi => ⟨by omega, by omega⟩), hGb k (by omega)]))) dX5_quench_140 ?_
        refine lv_iload_n hx hb dX5_quench_143 rfl (lv_at hl9 3 rfl) ?_
        refine lv_iload_n hx hb dX5_quench_144 rfl (lv_at hl9 2 rfl) ?_
        refine lv_iconst (v := 1) hx hb dX5_quench_145 (by decide) ?_
        refine lv_icmp_ne (tgt := 153) hx hb dX5_quench_146 (by decide) (fun _ => ?_) (fun h => absurd h (by decide))
        refine lv_iconst (v := 0) hx hb dX5_quench_153 (by decide) ?_
        obtain ⟨is9, hp1, hp2, hp3⟩ := q_pl (set := set) (md := 0) (ld := nI nl) [(o, .inr (6, hsF ad (nI (nl + 1)))), (ad 7, .inr (0, [.int (kb), .ref rb, .int (nI (g))])), (rb, .inl (T 3, n, qa fb))] hJ hJ0 hst hGb hGa hGq hGs (k := k) (by omega) c1
        refine z_callVvP (As := [.int (nI (nl)), .int 0]) (rest := []) (wc := biW (ad (100 + 3 * k)) (ad (101 + 3 * k)) (ad (102 + 3 * k)) (ad (2 + st k)) T (B k) (Al k) (K k) (τ (st k))) zN_k (zW_N hW) Z Mz9 (zVN_P (cb_plunge l D T (ad (100 + 3 * k)) (ad (101 + 3 * k)) (ad (102 + 3 * k)) (ad (2 + st k)) (B k) (Al k) (K k) (τ (st k)) (nI nl) 0)) (cwV 2 hts gX5_quench_X0_plunge rfl rfl rfl (by decide +kernel) ⟨Nat.le_of_ble_eq_true rfl, Nat.le_of_ble_eq_true rfl⟩) is9 hp1 hp2 (fun _ j hj => rfl) (fun _ => Nat.le_refl _) (va_recv Z.2.1 Mz9.1 (ci := 1) (q0 := J.idxOf (100 + 3 * k) + 3) rfl (show (([(o, .inr (6, hsF ad (nI (nl + 1)))), (ad 7, .inr (0, [.int (kb), .ref rb, .int (nI (g))])), (rb, .inl (T 3, n, qa fb))] ++ (iw J ad (qG ad T set 0 (nI nl) st B Al K τ G (k)))))[J.idxOf (100 + 3 * k) + 3]? = some (ad (100 + 3 * k), .inr (1, biF (ad (101 + 3 * k)) (ad (102 + 3 * k)) (ad (2 + st k)) (B k))) from (iw_get (idx_at (hJ0 k (by omega)).1)).trans (by rw [qG_keep ad T set _ _ st B Al K τ G (j := 100 + 3 * k) k (fun i hi => ⟨by omega, by omega⟩), hGb k (by omega)]))) rfl hl9.1 (Nat.le_of_ble_eq_true rfl) dX5_quench_154 ⟨Nat.le_of_ble_eq_true rfl, Nat.le_of_ble_eq_true rfl⟩ rfl (fun _ Hp9 lc9 Mz9 => ?_)
        have Mz9 : zM D A s.heap ([(o, .inr (6, hsF ad (nI (nl + 1)))), (ad 7, .inr (0, [.int (kb), .ref rb, .int (nI (g))])), (rb, .inl (T 3, n, qa fb))] ++ (iw J ad (qG ad T set 0 (nI nl) st B Al K τ G (k + 1)))) _ _ := zM_w hp3 Mz9
        refine lv_iinc (v := nI (k + 1)) (lv' := [(4, .int (nI (k + 1))), (0, .ref o), (1, .int (set)), (2, .int 0), (3, .int (nI (nl)))]) hx hb dX5_quench_157 hl9 (k := 4) rfl (nI_add (k) 1) (by decide) rfl (fun sl9 hl9 => ?_)
        refine lv_goto (tgt := 110) hx hb dX5_quench_160 (by decide) ?_
        exact ih110 (k + 1) (by omega)  _ _ _ (zM_w (by rfl) Mz9) (lv_sub hl9 [1, 2, 3, 4, 0] rfl)
  exact LP110_1 (g - 0) (0) (by omega)  _ _ _ (zM_w (by rfl) Mz9) (lv_sub hl9 [2, 3, 4, 1, 0] rfl)
set_option maxHeartbeats 4000000 in
set_option maxRecDepth 100000 in
theorem ch_quench_1 (l : Launch) (D : va_G) (T : Nat → ClassId) (ea mi : Nat) (sa : Nat → Nat) (o : Nat) (ad : Nat → Nat) (kb : Int32) (rb n g : Nat) (fb : Nat → Option Nat) (nl : Nat) (h20 : nl < 20) (set : Int32) (hg : g ≤ n) (hn : n ≤ 40000) (J : List Nat) (G : Nat → va_E) (st : Nat → Nat) (B Al K τ : Nat → Nat → Int32) (hf : ∀ i, i < g → fb i = some (ad (100 + 3 * i))) (hJ : J.Nodup) (hJ0 : ∀ i, i < g → 100 + 3 * i ∈ J ∧ 101 + 3 * i ∈ J ∧ 102 + 3 * i ∈ J ∧ 2 + st i ∈ J) (hst : ∀ i, i < g → st i < 4) (hGb : ∀ i, i < g → G (100 + 3 * i) = .inr (1, biF (ad (101 + 3 * i)) (ad (102 + 3 * i)) (ad (2 + st i)) (B i))) (hGa : ∀ i, i < g → G (101 + 3 * i) = .inl (T 0, 8, .inl (Al i))) (hGq : ∀ i, i < g → G (102 + 3 * i) = .inl (T 0, 8, .inl (K i))) (hGs : ∀ i, i < g → G (2 + st i) = .inr (5, [.int (τ (st i) 0), .int (τ (st i) 1), .int (τ (st i) 2)])) (h0 : ¬ set = 0) (hs : ush set (nI g) = 0) (hq : ¬ cbq B set g 0 = 0) : ZIH l yX5_quench wsX5_quench (zrm 4 87) (zW ea mi sa) D T (S := Unit) ([(o, .inr (6, hsF ad (nI (nl)))), (ad 7, .inr (0, [.int (kb), .ref rb, .int (nI (g))])), (rb, .inl (T 3, n, qa fb))] ++ (iw J ad G)) (fun _ => ([(o, .inr (6, hsF ad (nI (nl + 1)))), (ad 7, .inr (0, [.int (kb), .ref rb, .int (nI (g))])), (rb, .inl (T 3, n, qa fb))] ++ (iw J ad (qG ad T set 1 (nI nl) st B Al K τ G (g))))) [.ref o, .int (set), .int 1] (nI nl) 0 0 := by
  refine z_inIH (cc := cX5_quench) (maxL := 5) (rt := .int) (by decide +kernel) rfl (Nat.le_of_ble_eq_true rfl) ?_
  intro p e s m args below meth c sl9 A Q Z hW hnm Mz9 hl9 hret
  have Z : zC p s m args c cX5_quench 5 RX5 wsX5_quench D T A := Z
  have hx := Z.1.1
  have hb := Z.1.2.1
  have hts := Z.1.2.2.2.2
  have hin5 : ∀ w ∈ wsX50, w ∈ wsX5_quench := by decide +kernel
  have hinL : ∀ w ∈ wsJx4a65c0, w ∈ wsX5_quench := by decide +kernel
  have hin0 : ∀ w ∈ wsX00, w ∈ wsX5_quench := by decide +kernel
  have hin4 : ∀ w ∈ wsX40, w ∈ wsX5_quench := by decide +kernel
  have L22 := hts (.fieldLink RX5 22 "AnvilHouse" "billets" "Ljava/util/ArrayList;") (by decide +kernel)
  have L231 := hts (.fieldLink RX5 231 "AnvilHouse" "loads" "I") (by decide +kernel)
  have hl9 : lv_has sl9 5 [(0, .ref o), (1, .int (set)), (2, .int 1)] := hl9
  refine lv_iload_n hx hb dX5_quench_0 rfl (lv_at hl9 1 rfl) ?_
  refine lv_if_ne (tgt := 14) hx hb dX5_quench_1 (by decide) (fun _ => ?_) (fun h => absurd h (h0))
  refine lv_iload_n hx hb dX5_quench_14 rfl (lv_at hl9 1 rfl) ?_
  refine lv_aload_n hx hb dX5_quench_15 rfl (lv_at hl9 0 rfl) ?_
  refine z_getf Z Mz9 hin5 0 rfl rfl 2 (by decide) L22 rfl (v := .ref (ad 7)) rfl dX5_quench_16 ?_
  refine z_callVi (As := []) (rest := [.int (set)]) (rv := nI (g)) (wc := leW (ad 7) (.ref rb) kb (nI (g))) (wc' := leW (ad 7) (.ref rb) kb (nI (g))) Z Mz9 (cl_size l D T (ad 7) (.ref rb) kb (nI (g))) (cwV 0 hts gX5_quench_Jx4a65c_size_8abf5 rfl rfl rfl (by decide +kernel) ⟨Nat.le_of_ble_eq_true rfl, Nat.le_of_ble_eq_true rfl⟩) [1] rfl (by decide) (fun j hj => rfl) (Nat.le_refl _) (va_recv Z.2.1 Mz9.1 (ci := 0) (q0 := 1) rfl rfl) rfl hl9.1 (Nat.le_of_ble_eq_true rfl) dX5_quench_19 ⟨Nat.le_of_ble_eq_true rfl, Nat.le_of_ble_eq_true rfl⟩ rfl (fun Hp9 lc9 Mz9 => ?_)
  have Mz9 : zM D A s.heap ([(o, .inr (6, hsF ad (nI (nl)))), (ad 7, .inr (0, [.int (kb), .ref rb, .int (nI (g))])), (rb, .inl (T 3, n, qa fb))] ++ (iw J ad G)) _ _ := zM_w (by simp only [z_put, List.append_nil]; rfl) Mz9
  refine lv_iushr (v := (set.toUInt32 >>> ((nI (g)).toUInt32 &&& Int32.toUInt32 31)).toInt32) hx hb dX5_quench_22 rfl ?_
  refine lv_if_eq (tgt := 36) hx hb dX5_quench_23 (by decide) (fun _ => ?_) (fun h => absurd h (fun z => z hs))
  refine lv_iload_n hx hb dX5_quench_36 rfl (lv_at hl9 2 rfl) ?_
  refine lv_if_eq (tgt := 55) hx hb dX5_quench_37 (by decide) (fun h => absurd h (by decide)) (fun _ => ?_)
  refine lv_iload_n hx hb dX5_quench_40 rfl (lv_at hl9 2 rfl) ?_
  refine lv_iconst (v := 1) hx hb dX5_quench_41 (by decide) ?_
  refine lv_icmp_eq (tgt := 55) hx hb dX5_quench_42 (by decide) (fun _ => ?_) (fun h => absurd h (by decide))
  refine lv_aload_n hx hb dX5_quench_55 rfl (lv_at hl9 0 rfl) ?_
  refine lv_iload_n hx hb dX5_quench_56 rfl (lv_at hl9 1 rfl) ?_
  refine z_callAi (As := [.int (set)]) (rest := []) (rv := cbq B set g 0) (wc' := ([(o, .inr (6, hsF ad (nI (nl)))), (ad 7, .inr (0, [.int (kb), .ref rb, .int (nI (g))])), (rb, .inl (T 3, n, qa fb))] ++ (iw J ad G))) Z Mz9 (ch_canBeQuenched l D T o ad (nI (nl)) kb rb n g fb set hg hn (iw J ad G) (fun i => ad (100 + 3 * i)) (fun i => ad (101 + 3 * i)) (fun i => ad (102 + 3 * i)) (fun i => ad (2 + st i)) (fun i => J.idxOf (100 + 3 * i)) B hf (fun i hi => (iw_get (idx_at (hJ0 i hi).1)).trans (by rw [hGb i hi]))) (cwV 1 hts gX5_quench_X5_canBeQuenched rfl rfl rfl (by decide +kernel) ⟨Nat.le_of_ble_eq_true rfl, Nat.le_of_ble_eq_true rfl⟩) (va_recv Z.2.1 Mz9.1 (ci := 6) (q0 := 0) rfl rfl) rfl hl9.1 (Nat.le_of_ble_eq_true rfl) dX5_quench_57 ⟨Nat.le_of_ble_eq_true rfl, Nat.le_of_ble_eq_true rfl⟩ rfl (fun Hp9 lc9 Mz9 => ?_)
  refine lv_if_ne (tgt := 73) hx hb dX5_quench_60 (by decide) (fun _ => ?_) (fun h => absurd h (hq))
  refine lv_aload_n hx hb dX5_quench_73 rfl (lv_at hl9 0 rfl) ?_
  refine z_getf Z Mz9 hin5 0 rfl rfl 5 (by decide) L231 rfl (v := .int (nI (nl))) rfl dX5_quench_74 ?_
  refine lv_bipush (v := 20) hx hb dX5_quench_77 (by decide) ?_
  refine zn_icmp_lt (a := nl) (b := 20) (tgt := 92) (by omega) (by decide) hx hb dX5_quench_79 (by decide) (fun _ => ?_) (fun h => absurd h (by omega))
  refine lv_aload_n hx hb dX5_quench_92 rfl (lv_at hl9 0 rfl) ?_
  refine z_getf Z Mz9 hin5 0 rfl rfl 5 (by decide) L231 rfl (v := .int (nI (nl))) rfl dX5_quench_93 ?_
  refine lv_istore_n (lv' := [(3, .int (nI (nl))), (0, .ref o), (1, .int (set)), (2, .int 1)]) hx hb dX5_quench_96 rfl hl9 (by decide) rfl (fun sl9 hl9 => ?_)
  refine lv_aload_n hx hb dX5_quench_97 rfl (lv_at hl9 1 rfl) ?_
  refine lv_dup hx hb dX5_quench_98 rfl ?_
  refine z_getf Z Mz9 hin5 0 rfl rfl 5 (by decide) L231 rfl (v := .int (nI (nl))) rfl dX5_quench_99 ?_
  refine lv_iconst (v := 1) hx hb dX5_quench_102 (by decide) ?_
  refine zn_iadd (a := nl) (b := 1) hx hb dX5_quench_103 ?_
  refine z_putf Z Mz9 hin5 tyX5 tyX5_ok nmX5 0 rfl rfl 5 (by decide) L231 rfl rfl (ty := .int) rfl rfl rfl (Nat.le_of_ble_eq_true rfl) (ws' := ([(o, .inr (6, hsF ad (nI (nl + 1)))), (ad 7, .inr (0, [.int (kb), .ref rb, .int (nI (g))])), (rb, .inl (T 3, n, qa fb))] ++ (iw J ad G))) rfl dX5_quench_104 (fun Hp9 lc9 Mz9 => ?_)
  refine lv_iconst (v := 0) hx hb dX5_quench_107 (by decide) ?_
  refine lv_istore (lv' := [(4, .int 0), (3, .int (nI (nl))), (0, .ref o), (1, .int (set)), (2, .int 1)]) hx hb dX5_quench_108 hl9 (by decide) rfl (fun sl9 hl9 => ?_)
  have LP110_1 : ∀ (n110 k : Nat), k + n110 = g → ∀ (Hp9 : Heap) (lc9 : List Loc) (sl9 : Array Slot), zM D A s.heap (([(o, .inr (6, hsF ad (nI (nl + 1)))), (ad 7, .inr (0, [.int (kb), .ref rb, .int (nI (g))])), (rb, .inl (T 3, n, qa fb))] ++ (iw J ad (qG ad T set 1 (nI nl) st B Al K τ G (k))))) Hp9 lc9 → lv_has sl9 5 [(0, .ref o), (1, .int (set)), (2, .int 1), (3, .int (nI (nl))), (4, .int (nI (k)))] → W p l e (zrm 4 87) s m args below meth c Hp9 lc9 0 0 Q (F0 m 110 sl9 []) := by
    intro n110
    induction n110 with
    | zero =>
      intro k hk9 Hp9 lc9 sl9 Mz9 hl9
      obtain rfl : g = k := by omega
      refine lv_iload hx hb dX5_quench_110 (lv_at hl9 4 rfl) ?_
      refine lv_aload_n hx hb dX5_quench_112 rfl (lv_at hl9 0 rfl) ?_
      refine z_getf Z Mz9 hin5 0 rfl rfl 2 (by decide) L22 rfl (v := .ref (ad 7)) rfl dX5_quench_113 ?_
      refine z_callVi (As := []) (rest := [.int (nI (g))]) (rv := nI (g)) (wc := leW (ad 7) (.ref rb) kb (nI (g))) (wc' := leW (ad 7) (.ref rb) kb (nI (g))) Z Mz9 (cl_size l D T (ad 7) (.ref rb) kb (nI (g))) (cwV 0 hts gX5_quench_Jx4a65c_size_8abf5 rfl rfl rfl (by decide +kernel) ⟨Nat.le_of_ble_eq_true rfl, Nat.le_of_ble_eq_true rfl⟩) [1] rfl (by decide) (fun j hj => rfl) (Nat.le_refl _) (va_recv Z.2.1 Mz9.1 (ci := 0) (q0 := 1) rfl rfl) rfl hl9.1 (Nat.le_of_ble_eq_true rfl) dX5_quench_116 ⟨Nat.le_of_ble_eq_true rfl, Nat.le_of_ble_eq_true rfl⟩ rfl (fun Hp9 lc9 Mz9 => ?_)
      have Mz9 : zM D A s.heap ([(o, .inr (6, hsF ad (nI (nl + 1)))), (ad 7, .inr (0, [.int (kb), .ref rb, .int (nI (g))])), (rb, .inl (T 3, n, qa fb))] ++ (iw J ad (qG ad T set 1 (nI nl) st B Al K τ G (g)))) _ _ := zM_w (by simp only [z_put, List.append_nil]; rfl) Mz9
      refine zn_icmp_ge (a := g) (b := g) (tgt := 163) (by omega) (by omega) hx hb dX5_quench_119 (by decide) (fun _ => ?_) (fun h => absurd h (by omega))
      refine lv_iload_n hx hb dX5_quench_163 rfl (lv_at hl9 3 rfl) ?_
      exact hret _ _ _ _ _ sl9 _ _ () Mz9 (rfl) (rfl) (rfl) (Nat.le_of_ble_eq_true rfl) (Nat.le_of_ble_eq_true rfl) dX5_quench_164
    | succ n110 ih110 =>
      intro k hk9 Hp9 lc9 sl9 Mz9 hl9
      refine lv_iload hx hb dX5_quench_110 (lv_at hl9 4 rfl) ?_
      refine lv_aload_n hx hb dX5_quench_112 rfl (lv_at hl9 0 rfl) ?_
      refine z_getf Z Mz9 hin5 0 rfl rfl 2 (by decide) L22 rfl (v := .ref (ad 7)) rfl dX5_quench_113 ?_
      refine z_callVi (As := []) (rest := [.int (nI (k))]) (rv := nI (g)) (wc := leW (ad 7) (.ref rb) kb (nI (g))) (wc' := leW (ad 7) (.ref rb) kb (nI (g))) Z Mz9 (cl_size l D T (ad 7) (.ref rb) kb (nI (g))) (cwV 0 hts gX5_quench_Jx4a65c_size_8abf5 rfl rfl rfl (by decide +kernel) ⟨Nat.le_of_ble_eq_true rfl, Nat.le_of_ble_eq_true rfl⟩) [1] rfl (by decide) (fun j hj => rfl) (Nat.le_refl _) (va_recv Z.2.1 Mz9.1 (ci := 0) (q0 := 1) rfl rfl) rfl hl9.1 (Nat.le_of_ble_eq_true rfl) dX5_quench_116 ⟨Nat.le_of_ble_eq_true rfl, Nat.le_of_ble_eq_true rfl⟩ rfl (fun Hp9 lc9 Mz9 => ?_)
      have Mz9 : zM D A s.heap ([(o, .inr (6, hsF ad (nI (nl + 1)))), (ad 7, .inr (0, [.int (kb), .ref rb, .int (nI (g))])), (rb, .inl (T 3, n, qa fb))] ++ (iw J ad (qG ad T set 1 (nI nl) st B Al K τ G (k)))) _ _ := zM_w (by simp only [z_put, List.append_nil]; rfl) Mz9
      refine zn_icmp_ge (a := k) (b := g) (tgt := 163) (by omega) (by omega) hx hb dX5_quench_119 (by decide) (fun h => absurd h (by omega)) (fun _ => ?_)
      refine lv_iload_n hx hb dX5_quench_122 rfl (lv_at hl9 1 rfl) ?_
      refine lv_iload hx hb dX5_quench_123 (lv_at hl9 4 rfl) ?_
      refine z_callSi (As := [.int (set), .int (nI (k))]) (rest := []) Z.1 (cs_isInSet l set (nI (k))) (va_cwS 2 hts gX5_quench_X5_isInSet rfl rfl rfl (by decide +kernel) ⟨Nat.le_of_ble_eq_true rfl, Nat.le_of_ble_eq_true rfl⟩) rfl hl9.1 (Nat.le_of_ble_eq_true rfl) dX5_quench_125 ⟨Nat.le_of_ble_eq_true rfl, Nat.le_of_ble_eq_true rfl⟩ rfl ?_
      rcases Classical.em (ush set (nI (k)) &&& 1 = 0) with c1 | c1
      ·
        refine zn_top (y := 0) (if_pos c1) ?_
        refine lv_if_eq (tgt := 157) hx hb dX5_quench_128 (by decide) (fun _ => ?_) (fun h => absurd h (by decide))
        refine lv_iinc (v := nI (k + 1)) (lv' := [(4, .int (nI (k + 1))), (0, .ref o), (1, .int (set)), (2, .int 1), (3, .int (nI (nl)))]) hx hb dX5_quench_157 hl9 (k := 4) rfl (nI_add (k) 1) (by decide) rfl (fun sl9 hl9 => ?_)
        refine lv_goto (tgt := 110) hx hb dX5_quench_160 (by decide) ?_
        exact ih110 (k + 1) (by omega)  _ _ _ (zM_w (by simp only [qG, if_pos c1]) Mz9) (lv_sub hl9 [1, 2, 3, 4, 0] rfl)
      ·
        refine zn_top (y := 1) (if_neg c1) ?_
        refine lv_if_eq (tgt := 157) hx hb dX5_quench_128 (by decide) (fun h => absurd h (by decide)) (fun _ => ?_)
        refine lv_aload_n hx hb dX5_quench_131 rfl (lv_at hl9 0 rfl) ?_
        refine z_getf Z Mz9 hin5 0 rfl rfl 2 (by decide) L22 rfl (v := .ref (ad 7)) rfl dX5_quench_132 ?_
        refine lv_iload hx hb dX5_quench_135 (lv_at hl9 4 rfl) ?_
        refine z_callVr (As := [.int (nI (k))]) (rest := []) (wc := liW (ad 7) rb n T kb (nI (g)) fb) Z Mz9 (cl_get l D T (ad 7) rb n (k) (ad (100 + 3 * k)) g kb fb (by omega) hg (by omega) (hf k (by omega))) (cwV 1 hts gX5_quench_Jx4a65c_get_915e3 rfl rfl rfl (by decide +kernel) ⟨Nat.le_of_ble_eq_true rfl, Nat.le_of_ble_eq_true rfl⟩) [1, 2] rfl (by decide) (fun _ j hj => rfl) (fun _ => Nat.le_refl _) (va_recv Z.2.1 Mz9.1 (ci := 0) (q0 := 1) rfl rfl) rfl hl9.1 (Nat.le_of_ble_eq_true rfl) dX5_quench_137 ⟨Nat.le_of_ble_eq_true rfl, Nat.le_of_ble_eq_true rfl⟩ rfl (fun _ Hp9 lc9 Mz9 => ?_)
        have Mz9 : zM D A s.heap ([(o, .inr (6, hsF ad (nI (nl + 1)))), (ad 7, .inr (0, [.int (kb), .ref rb, .int (nI (g))])), (rb, .inl (T 3, n, qa fb))] ++ (iw J ad (qG ad T set 1 (nI nl) st B Al K τ G (k)))) _ _ := zM_w (by simp only [z_put, List.append_nil]; rfl) Mz9
        refine va_castS hx hb Z.1.2.2.2.1 (hts (.classLink RX5 94 RX0) (by decide +kernel)) (Z.2.1.1 1 (RX0, TX0, 18) rfl).2 (va_recv Z.2.1 Mz9.1 (ci := 1) (q0 := J.idxOf (100 + 3 * k) + 3) rfl (show (([(o, .inr (6, hsF ad (nI (nl + 1)))), (ad 7, .inr (0, [.int (kb), .ref rb, .int (nI (g))])), (rb, .inl (T 3, n, qa fb))] ++ (iw J ad (qG ad T set 1 (nI nl) st B Al K τ G (k)))))[J.idxOf (100 + 3 * k) + 3]? = some (ad (100 + 3 * k), .inr (1, biF (ad (101 + 3 * k)) (ad (102 + 3 * k)) (ad (2 + st k)) (B k))) from (iw_get (idx_at (hJ0 k (by omega)).1)).trans (by rw [qG_keep ad T set _ _ st B Al K τ G (j := 100 + 3 * k) k (fun i hi => ⟨by omega, by omega⟩), hGb k (by omega)]))) dX5_quench_140 ?_
        refine lv_iload_n hx hb dX5_quench_143 rfl (lv_at hl9 3 rfl) ?_
        refine lv_iload_n hx hb dX5_quench_144 rfl (lv_at hl9 2 rfl) ?_
        refine lv_iconst (v := 1) hx hb dX5_quench_145 (by decide) ?_
        refine lv_icmp_ne (tgt := 153) hx hb dX5_quench_146 (by decide) (fun h => absurd h (by decide)) (fun _ => ?_)
        refine lv_iconst (v := 1) hx hb dX5_quench_149 (by decide) ?_
        refine lv_goto (tgt := 154) hx hb dX5_quench_150 (by decide) ?_
        obtain ⟨is9, hp1, hp2, hp3⟩ := q_pl (set := set) (md := 1) (ld := nI nl) [(o, .inr (6, hsF ad (nI (nl + 1)))), (ad 7, .inr (0, [.int (kb), .ref rb, .int (nI (g))])), (rb, .inl (T 3, n, qa fb))] hJ hJ0 hst hGb hGa hGq hGs (k := k) (by omega) c1
        refine z_callVvP (As := [.int (nI (nl)), .int 1]) (rest := []) (wc := biW (ad (100 + 3 * k)) (ad (101 + 3 * k)) (ad (102 + 3 * k)) (ad (2 + st k)) T (B k) (Al k) (K k) (τ (st k))) zN_k (zW_N hW) Z Mz9 (zVN_P (cb_plunge l D T (ad (100 + 3 * k)) (ad (101 + 3 * k)) (ad (102 + 3 * k)) (ad (2 + st k)) (B k) (Al k) (K k) (τ (st k)) (nI nl) 1)) (cwV 2 hts gX5_quench_X0_plunge rfl rfl rfl (by decide +kernel) ⟨Nat.le_of_ble_eq_true rfl, Nat.le_of_ble_eq_true rfl⟩) is9 hp1 hp2 (fun _ j hj => rfl) (fun _ => Nat.le_refl _) (va_recv Z.2.1 Mz9.1 (ci := 1) (q0 := J.idxOf (100 + 3 * k) + 3) rfl (show (([(o, .inr (6, hsF ad (nI (nl + 1)))), (ad 7, .inr (0, [.int (kb), .ref rb, .int (nI (g))])), (rb, .inl (T 3, n, qa fb))] ++ (iw J ad (qG ad T set 1 (nI nl) st B Al K τ G (k)))))[J.idxOf (100 + 3 * k) + 3]? = some (ad (100 + 3 * k), .inr (1, biF (ad (101 + 3 * k)) (ad (102 + 3 * k)) (ad (2 + st k)) (B k))) from (iw_get (idx_at (hJ0 k (by omega)).1)).trans (by rw [qG_keep ad T set _ _ st B Al K τ G (j := 100 + 3 * k) k (fun i hi => ⟨by omega, by omega⟩), hGb k (by omega)]))) rfl hl9.1 (Nat.le_of_ble_eq_true rfl) dX5_quench_154 ⟨Nat.le_of_ble_eq_true rfl, Nat.le_of_ble_eq_true rfl⟩ rfl (fun _ Hp9 lc9 Mz9 => ?_)
        have Mz9 : zM D A s.heap ([(o, .inr (6, hsF ad (nI (nl + 1)))), (ad 7, .inr (0, [.int (kb), .ref rb, .int (nI (g))])), (rb, .inl (T 3, n, qa fb))] ++ (iw J ad (qG ad T set 1 (nI nl) st B Al K τ G (k + 1)))) _ _ := zM_w hp3 Mz9
        refine lv_iinc (v := nI (k + 1)) (lv' := [(4, .int (nI (k + 1))), (0, .ref o), (1, .int (set)), (2, .int 1), (3, .int (nI (nl)))]) hx hb dX5_quench_157 hl9 (k := 4) rfl (nI_add (k) 1) (by decide) rfl (fun sl9 hl9 => ?_)
        refine lv_goto (tgt := 110) hx hb dX5_quench_160 (by decide) ?_
        exact ih110 (k + 1) (by omega)  _ _ _ (zM_w (by rfl) Mz9) (lv_sub hl9 [1, 2, 3, 4, 0] rfl)
  exact LP110_1 (g - 0) (0) (by omega)  _ _ _ (zM_w (by rfl) Mz9) (lv_sub hl9 [2, 3, 4, 1, 0] rfl)
set_option maxHeartbeats 4000000 in
set_option maxRecDepth 100000 in
theorem ch_quench_a (l : Launch) (hfl : l.stackTraces = false) (D : va_G) (T : Nat → ClassId) (ea mi : Nat) (sa : Nat → Nat) (o : Nat) (ad : Nat → Nat) (lo : Int32) (kb : Int32) (rb n g : Nat) (fb : Nat → Option Nat) (set md : Int32) (hv9 : set = 0 ∨ ¬ ush set (nI g) = 0 ∨ (¬ md = 0 ∧ ¬ md = 1)) : ZB l yX5_quench wsX5_quench (zrmc 6 82 1 6) (zW ea mi sa) D T [(o, .inr (6, hsF ad lo)), (ad 7, .inr (0, [.int (kb), .ref rb, .int (nI (g))]))] [.ref o, .int (set), .int (md)] "java/lang/IllegalArgumentException" := by
  refine z_inB (cc := cX5_quench) (maxL := 5) (ret := (some .int)) (by decide +kernel) rfl (Nat.le_of_ble_eq_true rfl) ?_
  intro p e s m args below meth c sl9 A hA Z hW Mz9 hl9 hE
  have Z : zC p s m args c cX5_quench 5 RX5 wsX5_quench D T A := Z
  have hx := Z.1.1
  have hb := Z.1.2.1
  have hts := Z.1.2.2.2.2
  have hin5 : ∀ w ∈ wsX50, w ∈ wsX5_quench := by decide +kernel
  have hinL : ∀ w ∈ wsJx4a65c0, w ∈ wsX5_quench := by decide +kernel
  have hin0 : ∀ w ∈ wsX00, w ∈ wsX5_quench := by decide +kernel
  have hin4 : ∀ w ∈ wsX40, w ∈ wsX5_quench := by decide +kernel
  have hX9 : ∀ w ∈ Cond.classLink RX5 51 "java/lang/IllegalArgumentException" :: Cond.initialized "java/lang/IllegalArgumentException" :: (vx_atS RX5 55 "java/lang/IllegalArgumentException" zNm).filter goodWord, w ∈ wsX5_quench := by decide +kernel
  have L22 := hts (.fieldLink RX5 22 "AnvilHouse" "billets" "Ljava/util/ArrayList;") (by decide +kernel)
  have L231 := hts (.fieldLink RX5 231 "AnvilHouse" "loads" "I") (by decide +kernel)
  have hl9 : lv_has sl9 5 [(0, .ref o), (1, .int (set)), (2, .int (md))] := hl9
  refine lv_iload_n hx hb dX5_quench_0 rfl (lv_at hl9 1 rfl) ?_
  refine lv_if_ne (tgt := 14) hx hb dX5_quench_1 (by decide) (fun c_1 => ?_) (fun c_1 => ?_)
  ·
    refine lv_iload_n hx hb dX5_quench_14 rfl (lv_at hl9 1 rfl) ?_
    refine lv_aload_n hx hb dX5_quench_15 rfl (lv_at hl9 0 rfl) ?_
    refine z_getf Z Mz9 hin5 0 rfl rfl 2 (by decide) L22 rfl (v := .ref (ad 7)) rfl dX5_quench_16 ?_
    refine z_callVi (As := []) (rest := [.int (set)]) (rv := nI (g)) (wc := leW (ad 7) (.ref rb) kb (nI (g))) (wc' := leW (ad 7) (.ref rb) kb (nI (g))) Z Mz9 (cl_size l D T (ad 7) (.ref rb) kb (nI (g))) (cwV 0 hts gX5_quench_Jx4a65c_size_8abf5 rfl rfl rfl (by decide +kernel) ⟨Nat.le_of_ble_eq_true rfl, Nat.le_of_ble_eq_true rfl⟩) [1] rfl (by decide) (fun j hj => rfl) (Nat.le_refl _) (va_recv Z.2.1 Mz9.1 (ci := 0) (q0 := 1) rfl rfl) rfl hl9.1 (Nat.le_of_ble_eq_true rfl) dX5_quench_19 ⟨Nat.le_of_ble_eq_true rfl, Nat.le_of_ble_eq_true rfl⟩ rfl (fun Hp9 lc9 Mz9 => ?_)
    have Mz9 : zM D A s.heap [(o, .inr (6, hsF ad lo)), (ad 7, .inr (0, [.int (kb), .ref rb, .int (nI (g))]))] _ _ := Mz9
    refine lv_iushr (v := (set.toUInt32 >>> ((nI (g)).toUInt32 &&& Int32.toUInt32 31)).toInt32) hx hb dX5_quench_22 rfl ?_
    refine lv_if_eq (tgt := 36) hx hb dX5_quench_23 (by decide) (fun c_2 => ?_) (fun c_2 => ?_)
    ·
      refine lv_iload_n hx hb dX5_quench_36 rfl (lv_at hl9 2 rfl) ?_
      refine lv_if_eq (tgt := 55) hx hb dX5_quench_37 (by decide) (fun c_3 => ?_) (fun c_3 => ?_)
      ·
        exact False.elim (by rcases hv9 with h | h | ⟨h1, h2⟩ <;> first | exact absurd h c_1 | exact absurd h c_2 | exact absurd h c_3 | exact absurd c_1 h | exact absurd c_2 h | exact absurd c_3 h | exact absurd c_1 h1 | exact absurd c_2 h1 | exact absurd c_3 h1 | exact absurd c_1 h2 | exact absurd c_2 h2 | exact absurd c_3 h2)
      ·
        refine lv_iload_n hx hb dX5_quench_40 rfl (lv_at hl9 2 rfl) ?_
        refine lv_iconst (v := 1) hx hb dX5_quench_41 (by decide) ?_
        refine lv_icmp_eq (tgt := 55) hx hb dX5_quench_42 (by decide) (fun c_4 => ?_) (fun c_4 => ?_)
        ·
          exact False.elim (by rcases hv9 with h | h | ⟨h1, h2⟩ <;> first | exact absurd h c_1 | exact absurd h c_2 | exact absurd h c_3 | exact absurd h c_4 | exact absurd c_1 h | exact absurd c_2 h | exact absurd c_3 h | exact absurd c_4 h | exact absurd c_1 h1 | exact absurd c_2 h1 | exact absurd c_3 h1 | exact absurd c_4 h1 | exact absurd c_1 h2 | exact absurd c_2 h2 | exact absurd c_3 h2 | exact absurd c_4 h2)
        ·
          exact z_throw Z hW Mz9 hA hE hl9.1 hfl zThr_A hX9 (is := 223) (text := "a medium is OIL or WATER") (by decide +kernel) dX5_quench_45 dX5_quench_48 dX5_quench_49 dX5_quench_51 dX5_quench_54 (Nat.le_of_ble_eq_true rfl) (Nat.le_of_ble_eq_true rfl) ⟨Nat.le_of_ble_eq_true rfl, Nat.le_of_ble_eq_true rfl⟩ ⟨Nat.le_of_ble_eq_true rfl, Nat.le_of_ble_eq_true rfl⟩ rfl
    ·
      exact z_throw Z hW Mz9 hA hE hl9.1 hfl zThr_A hX9 (is := 221) (text := "one of the set is not there") (by decide +kernel) dX5_quench_26 dX5_quench_29 dX5_quench_30 dX5_quench_32 dX5_quench_35 (Nat.le_of_ble_eq_true rfl) (Nat.le_of_ble_eq_true rfl) ⟨Nat.le_of_ble_eq_true rfl, Nat.le_of_ble_eq_true rfl⟩ ⟨Nat.le_of_ble_eq_true rfl, Nat.le_of_ble_eq_true rfl⟩ rfl
  ·
    exact z_throw Z hW Mz9 hA hE hl9.1 hfl zThr_A hX9 (is := 219) (text := "the set is empty") (by decide +kernel) dX5_quench_4 dX5_quench_7 dX5_quench_8 dX5_quench_10 dX5_quench_13 (Nat.le_of_ble_eq_true rfl) (Nat.le_of_ble_eq_true rfl) ⟨Nat.le_of_ble_eq_true rfl, Nat.le_of_ble_eq_true rfl⟩ ⟨Nat.le_of_ble_eq_true rfl, Nat.le_of_ble_eq_true rfl⟩ rfl
set_option maxHeartbeats 4000000 in
set_option maxRecDepth 100000 in
theorem ch_quench_q (l : Launch) (hfl : l.stackTraces = false) (D : va_G) (T : Nat → ClassId) (ea mi : Nat) (sa : Nat → Nat) (o : Nat) (ad : Nat → Nat) (kb : Int32) (rb n g : Nat) (fb : Nat → Option Nat) (lo : Int32) (set : Int32) (hg : g ≤ n) (hn : n ≤ 40000) (J : List Nat) (G : Nat → va_E) (st : Nat → Nat) (B Al K τ : Nat → Nat → Int32) (hf : ∀ i, i < g → fb i = some (ad (100 + 3 * i))) (hJ : J.Nodup) (hJ0 : ∀ i, i < g → 100 + 3 * i ∈ J ∧ 101 + 3 * i ∈ J ∧ 102 + 3 * i ∈ J ∧ 2 + st i ∈ J) (hst : ∀ i, i < g → st i < 4) (hGb : ∀ i, i < g → G (100 + 3 * i) = .inr (1, biF (ad (101 + 3 * i)) (ad (102 + 3 * i)) (ad (2 + st i)) (B i))) (hGa : ∀ i, i < g → G (101 + 3 * i) = .inl (T 0, 8, .inl (Al i))) (hGq : ∀ i, i < g → G (102 + 3 * i) = .inl (T 0, 8, .inl (K i))) (hGs : ∀ i, i < g → G (2 + st i) = .inr (5, [.int (τ (st i) 0), .int (τ (st i) 1), .int (τ (st i) 2)])) (md : Int32) (h0 : ¬ set = 0) (hs : ush set (nI g) = 0) (hmd : md = 0 ∨ md = 1) (hq : cbq B set g 0 = 0) : ZB l yX5_quench wsX5_quench (zrmc 6 87 1 6) (zW ea mi sa) D T ([(o, .inr (6, hsF ad lo)), (ad 7, .inr (0, [.int (kb), .ref rb, .int (nI (g))])), (rb, .inl (T 3, n, qa fb))] ++ (iw J ad G)) [.ref o, .int (set), .int (md)] "java/lang/IllegalStateException" := by
  refine z_inB (cc := cX5_quench) (maxL := 5) (ret := (some .int)) (by decide +kernel) rfl (Nat.le_of_ble_eq_true rfl) ?_
  intro p e s m args below meth c sl9 A hA Z hW Mz9 hl9 hE
  have Z : zC p s m args c cX5_quench 5 RX5 wsX5_quench D T A := Z
  have hx := Z.1.1
  have hb := Z.1.2.1
  have hts := Z.1.2.2.2.2
  have hin5 : ∀ w ∈ wsX50, w ∈ wsX5_quench := by decide +kernel
  have hinL : ∀ w ∈ wsJx4a65c0, w ∈ wsX5_quench := by decide +kernel
  have hin0 : ∀ w ∈ wsX00, w ∈ wsX5_quench := by decide +kernel
  have hin4 : ∀ w ∈ wsX40, w ∈ wsX5_quench := by decide +kernel
  have hX9 : ∀ w ∈ Cond.classLink RX5 76 "java/lang/IllegalStateException" :: Cond.initialized "java/lang/IllegalStateException" :: (vx_atS RX5 80 "java/lang/IllegalStateException" zNm).filter goodWord, w ∈ wsX5_quench := by decide +kernel
  have L22 := hts (.fieldLink RX5 22 "AnvilHouse" "billets" "Ljava/util/ArrayList;") (by decide +kernel)
  have L231 := hts (.fieldLink RX5 231 "AnvilHouse" "loads" "I") (by decide +kernel)
  have hl9 : lv_has sl9 5 [(0, .ref o), (1, .int (set)), (2, .int (md))] := hl9
  refine lv_iload_n hx hb dX5_quench_0 rfl (lv_at hl9 1 rfl) ?_
  refine lv_if_ne (tgt := 14) hx hb dX5_quench_1 (by decide) (fun _ => ?_) (fun h => absurd h (h0))
  refine lv_iload_n hx hb dX5_quench_14 rfl (lv_at hl9 1 rfl) ?_
  refine lv_aload_n hx hb dX5_quench_15 rfl (lv_at hl9 0 rfl) ?_
  refine z_getf Z Mz9 hin5 0 rfl rfl 2 (by decide) L22 rfl (v := .ref (ad 7)) rfl dX5_quench_16 ?_
  refine z_callVi (As := []) (rest := [.int (set)]) (rv := nI (g)) (wc := leW (ad 7) (.ref rb) kb (nI (g))) (wc' := leW (ad 7) (.ref rb) kb (nI (g))) Z Mz9 (cl_size l D T (ad 7) (.ref rb) kb (nI (g))) (cwV 0 hts gX5_quench_Jx4a65c_size_8abf5 rfl rfl rfl (by decide +kernel) ⟨Nat.le_of_ble_eq_true rfl, Nat.le_of_ble_eq_true rfl⟩) [1] rfl (by decide) (fun j hj => rfl) (Nat.le_refl _) (va_recv Z.2.1 Mz9.1 (ci := 0) (q0 := 1) rfl rfl) rfl hl9.1 (Nat.le_of_ble_eq_true rfl) dX5_quench_19 ⟨Nat.le_of_ble_eq_true rfl, Nat.le_of_ble_eq_true rfl⟩ rfl (fun Hp9 lc9 Mz9 => ?_)
  have Mz9 : zM D A s.heap ([(o, .inr (6, hsF ad lo)), (ad 7, .inr (0, [.int (kb), .ref rb, .int (nI (g))])), (rb, .inl (T 3, n, qa fb))] ++ (iw J ad G)) _ _ := zM_w (by simp only [z_put, List.append_nil]; rfl) Mz9
  refine lv_iushr (v := (set.toUInt32 >>> ((nI (g)).toUInt32 &&& Int32.toUInt32 31)).toInt32) hx hb dX5_quench_22 rfl ?_
  refine lv_if_eq (tgt := 36) hx hb dX5_quench_23 (by decide) (fun _ => ?_) (fun h => absurd h (fun z => z hs))
  refine lv_iload_n hx hb dX5_quench_36 rfl (lv_at hl9 2 rfl) ?_
  refine lv_if_eq (tgt := 55) hx hb dX5_quench_37 (by decide) (fun c_1 => ?_) (fun c_1 => ?_)
  ·
    refine lv_aload_n hx hb dX5_quench_55 rfl (lv_at hl9 0 rfl) ?_
    refine lv_iload_n hx hb dX5_quench_56 rfl (lv_at hl9 1 rfl) ?_
    refine z_callAi (As := [.int (set)]) (rest := []) (rv := cbq B set g 0) (wc' := ([(o, .inr (6, hsF ad lo)), (ad 7, .inr (0, [.int (kb), .ref rb, .int (nI (g))])), (rb, .inl (T 3, n, qa fb))] ++ (iw J ad G))) Z Mz9 (ch_canBeQuenched l D T o ad lo kb rb n g fb set hg hn (iw J ad G) (fun i => ad (100 + 3 * i)) (fun i => ad (101 + 3 * i)) (fun i => ad (102 + 3 * i)) (fun i => ad (2 + st i)) (fun i => J.idxOf (100 + 3 * i)) B hf (fun i hi => (iw_get (idx_at (hJ0 i hi).1)).trans (by rw [hGb i hi]))) (cwV 1 hts gX5_quench_X5_canBeQuenched rfl rfl rfl (by decide +kernel) ⟨Nat.le_of_ble_eq_true rfl, Nat.le_of_ble_eq_true rfl⟩) (va_recv Z.2.1 Mz9.1 (ci := 6) (q0 := 0) rfl rfl) rfl hl9.1 (Nat.le_of_ble_eq_true rfl) dX5_quench_57 ⟨Nat.le_of_ble_eq_true rfl, Nat.le_of_ble_eq_true rfl⟩ rfl (fun Hp9 lc9 Mz9 => ?_)
    refine lv_if_ne (tgt := 73) hx hb dX5_quench_60 (by decide) (fun h => absurd h (fun z => z hq)) (fun _ => ?_)
    exact z_throw Z hW Mz9 hA hE hl9.1 hfl zThr_S hX9 (is := 229) (text := "one is not warm enough or has a crack") (by decide +kernel) dX5_quench_63 dX5_quench_66 dX5_quench_67 dX5_quench_69 dX5_quench_72 (Nat.le_of_ble_eq_true rfl) (Nat.le_of_ble_eq_true rfl) ⟨Nat.le_of_ble_eq_true rfl, Nat.le_of_ble_eq_true rfl⟩ ⟨Nat.le_of_ble_eq_true rfl, Nat.le_of_ble_eq_true rfl⟩ rfl
  ·
    refine lv_iload_n hx hb dX5_quench_40 rfl (lv_at hl9 2 rfl) ?_
    refine lv_iconst (v := 1) hx hb dX5_quench_41 (by decide) ?_
    refine lv_icmp_eq (tgt := 55) hx hb dX5_quench_42 (by decide) (fun c_2 => ?_) (fun c_2 => ?_)
    ·
      refine lv_aload_n hx hb dX5_quench_55 rfl (lv_at hl9 0 rfl) ?_
      refine lv_iload_n hx hb dX5_quench_56 rfl (lv_at hl9 1 rfl) ?_
      refine z_callAi (As := [.int (set)]) (rest := []) (rv := cbq B set g 0) (wc' := ([(o, .inr (6, hsF ad lo)), (ad 7, .inr (0, [.int (kb), .ref rb, .int (nI (g))])), (rb, .inl (T 3, n, qa fb))] ++ (iw J ad G))) Z Mz9 (ch_canBeQuenched l D T o ad lo kb rb n g fb set hg hn (iw J ad G) (fun i => ad (100 + 3 * i)) (fun i => ad (101 + 3 * i)) (fun i => ad (102 + 3 * i)) (fun i => ad (2 + st i)) (fun i => J.idxOf (100 + 3 * i)) B hf (fun i hi => (iw_get (idx_at (hJ0 i hi).1)).trans (by rw [hGb i hi]))) (cwV 1 hts gX5_quench_X5_canBeQuenched rfl rfl rfl (by decide +kernel) ⟨Nat.le_of_ble_eq_true rfl, Nat.le_of_ble_eq_true rfl⟩) (va_recv Z.2.1 Mz9.1 (ci := 6) (q0 := 0) rfl rfl) rfl hl9.1 (Nat.le_of_ble_eq_true rfl) dX5_quench_57 ⟨Nat.le_of_ble_eq_true rfl, Nat.le_of_ble_eq_true rfl⟩ rfl (fun Hp9 lc9 Mz9 => ?_)
      refine lv_if_ne (tgt := 73) hx hb dX5_quench_60 (by decide) (fun h => absurd h (fun z => z hq)) (fun _ => ?_)
      exact z_throw Z hW Mz9 hA hE hl9.1 hfl zThr_S hX9 (is := 229) (text := "one is not warm enough or has a crack") (by decide +kernel) dX5_quench_63 dX5_quench_66 dX5_quench_67 dX5_quench_69 dX5_quench_72 (Nat.le_of_ble_eq_true rfl) (Nat.le_of_ble_eq_true rfl) ⟨Nat.le_of_ble_eq_true rfl, Nat.le_of_ble_eq_true rfl⟩ ⟨Nat.le_of_ble_eq_true rfl, Nat.le_of_ble_eq_true rfl⟩ rfl
    ·
      exact False.elim (by rcases hmd with h | h <;> first | exact absurd h c_1 | exact absurd c_1 h | exact absurd h (Int32.not_lt.mpr c_1) | exact absurd (Int32.not_le.mp c_1) (Int32.not_lt.mpr h) | exact absurd c_1 (Int32.not_lt.mpr h) | exact absurd h c_2 | exact absurd c_2 h | exact absurd h (Int32.not_lt.mpr c_2) | exact absurd (Int32.not_le.mp c_2) (Int32.not_lt.mpr h) | exact absurd c_2 (Int32.not_lt.mpr h))
set_option maxHeartbeats 4000000 in
set_option maxRecDepth 100000 in
theorem ch_quench_w (l : Launch) (hfl : l.stackTraces = false) (D : va_G) (T : Nat → ClassId) (ea mi : Nat) (sa : Nat → Nat) (o : Nat) (ad : Nat → Nat) (kb : Int32) (rb n g : Nat) (fb : Nat → Option Nat) (lo : Int32) (set : Int32) (hg : g ≤ n) (hn : n ≤ 40000) (J : List Nat) (G : Nat → va_E) (st : Nat → Nat) (B Al K τ : Nat → Nat → Int32) (hf : ∀ i, i < g → fb i = some (ad (100 + 3 * i))) (hJ : J.Nodup) (hJ0 : ∀ i, i < g → 100 + 3 * i ∈ J ∧ 101 + 3 * i ∈ J ∧ 102 + 3 * i ∈ J ∧ 2 + st i ∈ J) (hst : ∀ i, i < g → st i < 4) (hGb : ∀ i, i < g → G (100 + 3 * i) = .inr (1, biF (ad (101 + 3 * i)) (ad (102 + 3 * i)) (ad (2 + st i)) (B i))) (hGa : ∀ i, i < g → G (101 + 3 * i) = .inl (T 0, 8, .inl (Al i))) (hGq : ∀ i, i < g → G (102 + 3 * i) = .inl (T 0, 8, .inl (K i))) (hGs : ∀ i, i < g → G (2 + st i) = .inr (5, [.int (τ (st i) 0), .int (τ (st i) 1), .int (τ (st i) 2)])) (md : Int32) (h0 : ¬ set = 0) (hs : ush set (nI g) = 0) (hmd : md = 0 ∨ md = 1) (hq : ¬ cbq B set g 0 = 0) (hlo : ¬ lo < 20) : ZB l yX5_quench wsX5_quench (zrmc 6 87 1 6) (zW ea mi sa) D T ([(o, .inr (6, hsF ad lo)), (ad 7, .inr (0, [.int (kb), .ref rb, .int (nI (g))])), (rb, .inl (T 3, n, qa fb))] ++ (iw J ad G)) [.ref o, .int (set), .int (md)] "java/lang/IllegalStateException" := by
  refine z_inB (cc := cX5_quench) (maxL := 5) (ret := (some .int)) (by decide +kernel) rfl (Nat.le_of_ble_eq_true rfl) ?_
  intro p e s m args below meth c sl9 A hA Z hW Mz9 hl9 hE
  have Z : zC p s m args c cX5_quench 5 RX5 wsX5_quench D T A := Z
  have hx := Z.1.1
  have hb := Z.1.2.1
  have hts := Z.1.2.2.2.2
  have hin5 : ∀ w ∈ wsX50, w ∈ wsX5_quench := by decide +kernel
  have hinL : ∀ w ∈ wsJx4a65c0, w ∈ wsX5_quench := by decide +kernel
  have hin0 : ∀ w ∈ wsX00, w ∈ wsX5_quench := by decide +kernel
  have hin4 : ∀ w ∈ wsX40, w ∈ wsX5_quench := by decide +kernel
  have hX9 : ∀ w ∈ Cond.classLink RX5 76 "java/lang/IllegalStateException" :: Cond.initialized "java/lang/IllegalStateException" :: (vx_atS RX5 80 "java/lang/IllegalStateException" zNm).filter goodWord, w ∈ wsX5_quench := by decide +kernel
  have L22 := hts (.fieldLink RX5 22 "AnvilHouse" "billets" "Ljava/util/ArrayList;") (by decide +kernel)
  have L231 := hts (.fieldLink RX5 231 "AnvilHouse" "loads" "I") (by decide +kernel)
  have hl9 : lv_has sl9 5 [(0, .ref o), (1, .int (set)), (2, .int (md))] := hl9
  refine lv_iload_n hx hb dX5_quench_0 rfl (lv_at hl9 1 rfl) ?_
  refine lv_if_ne (tgt := 14) hx hb dX5_quench_1 (by decide) (fun _ => ?_) (fun h => absurd h (h0))
  refine lv_iload_n hx hb dX5_quench_14 rfl (lv_at hl9 1 rfl) ?_
  refine lv_aload_n hx hb dX5_quench_15 rfl (lv_at hl9 0 rfl) ?_
  refine z_getf Z Mz9 hin5 0 rfl rfl 2 (by decide) L22 rfl (v := .ref (ad 7)) rfl dX5_quench_16 ?_
  refine z_callVi (As := []) (rest := [.int (set)]) (rv := nI (g)) (wc := leW (ad 7) (.ref rb) kb (nI (g))) (wc' := leW (ad 7) (.ref rb) kb (nI (g))) Z Mz9 (cl_size l D T (ad 7) (.ref rb) kb (nI (g))) (cwV 0 hts gX5_quench_Jx4a65c_size_8abf5 rfl rfl rfl (by decide +kernel) ⟨Nat.le_of_ble_eq_true rfl, Nat.le_of_ble_eq_true rfl⟩) [1] rfl (by decide) (fun j hj => rfl) (Nat.le_refl _) (va_recv Z.2.1 Mz9.1 (ci := 0) (q0 := 1) rfl rfl) rfl hl9.1 (Nat.le_of_ble_eq_true rfl) dX5_quench_19 ⟨Nat.le_of_ble_eq_true rfl, Nat.le_of_ble_eq_true rfl⟩ rfl (fun Hp9 lc9 Mz9 => ?_)
  have Mz9 : zM D A s.heap ([(o, .inr (6, hsF ad lo)), (ad 7, .inr (0, [.int (kb), .ref rb, .int (nI (g))])), (rb, .inl (T 3, n, qa fb))] ++ (iw J ad G)) _ _ := zM_w (by simp only [z_put, List.append_nil]; rfl) Mz9
  refine lv_iushr (v := (set.toUInt32 >>> ((nI (g)).toUInt32 &&& Int32.toUInt32 31)).toInt32) hx hb dX5_quench_22 rfl ?_
  refine lv_if_eq (tgt := 36) hx hb dX5_quench_23 (by decide) (fun _ => ?_) (fun h => absurd h (fun z => z hs))
  refine lv_iload_n hx hb dX5_quench_36 rfl (lv_at hl9 2 rfl) ?_
  refine lv_if_eq (tgt := 55) hx hb dX5_quench_37 (by decide) (fun c_1 => ?_) (fun c_1 => ?_)
  ·
    refine lv_aload_n hx hb dX5_quench_55 rfl (lv_at hl9 0 rfl) ?_
    refine lv_iload_n hx hb dX5_quench_56 rfl (lv_at hl9 1 rfl) ?_
    refine z_callAi (As := [.int (set)]) (rest := []) (rv := cbq B set g 0) (wc' := ([(o, .inr (6, hsF ad lo)), (ad 7, .inr (0, [.int (kb), .ref rb, .int (nI (g))])), (rb, .inl (T 3, n, qa fb))] ++ (iw J ad G))) Z Mz9 (ch_canBeQuenched l D T o ad lo kb rb n g fb set hg hn (iw J ad G) (fun i => ad (100 + 3 * i)) (fun i => ad (101 + 3 * i)) (fun i => ad (102 + 3 * i)) (fun i => ad (2 + st i)) (fun i => J.idxOf (100 + 3 * i)) B hf (fun i hi => (iw_get (idx_at (hJ0 i hi).1)).trans (by rw [hGb i hi]))) (cwV 1 hts gX5_quench_X5_canBeQuenched rfl rfl rfl (by decide +kernel) ⟨Nat.le_of_ble_eq_true rfl, Nat.le_of_ble_eq_true rfl⟩) (va_recv Z.2.1 Mz9.1 (ci := 6) (q0 := 0) rfl rfl) rfl hl9.1 (Nat.le_of_ble_eq_true rfl) dX5_quench_57 ⟨Nat.le_of_ble_eq_true rfl, Nat.le_of_ble_eq_true rfl⟩ rfl (fun Hp9 lc9 Mz9 => ?_)
    refine lv_if_ne (tgt := 73) hx hb dX5_quench_60 (by decide) (fun _ => ?_) (fun h => absurd h (hq))
    refine lv_aload_n hx hb dX5_quench_73 rfl (lv_at hl9 0 rfl) ?_
    refine z_getf Z Mz9 hin5 0 rfl rfl 5 (by decide) L231 rfl (v := .int (lo)) rfl dX5_quench_74 ?_
    refine lv_bipush (v := 20) hx hb dX5_quench_77 (by decide) ?_
    refine lv_icmp_lt (tgt := 92) hx hb dX5_quench_79 (by decide) (fun h => absurd h (hlo)) (fun _ => ?_)
    exact z_throw Z hW Mz9 hA hE hl9.1 hfl zThr_S hX9 (is := 234) (text := "there are 20 loads") (by decide +kernel) dX5_quench_82 dX5_quench_85 dX5_quench_86 dX5_quench_88 dX5_quench_91 (Nat.le_of_ble_eq_true rfl) (Nat.le_of_ble_eq_true rfl) ⟨Nat.le_of_ble_eq_true rfl, Nat.le_of_ble_eq_true rfl⟩ ⟨Nat.le_of_ble_eq_true rfl, Nat.le_of_ble_eq_true rfl⟩ rfl
  ·
    refine lv_iload_n hx hb dX5_quench_40 rfl (lv_at hl9 2 rfl) ?_
    refine lv_iconst (v := 1) hx hb dX5_quench_41 (by decide) ?_
    refine lv_icmp_eq (tgt := 55) hx hb dX5_quench_42 (by decide) (fun c_2 => ?_) (fun c_2 => ?_)
    ·
      refine lv_aload_n hx hb dX5_quench_55 rfl (lv_at hl9 0 rfl) ?_
      refine lv_iload_n hx hb dX5_quench_56 rfl (lv_at hl9 1 rfl) ?_
      refine z_callAi (As := [.int (set)]) (rest := []) (rv := cbq B set g 0) (wc' := ([(o, .inr (6, hsF ad lo)), (ad 7, .inr (0, [.int (kb), .ref rb, .int (nI (g))])), (rb, .inl (T 3, n, qa fb))] ++ (iw J ad G))) Z Mz9 (ch_canBeQuenched l D T o ad lo kb rb n g fb set hg hn (iw J ad G) (fun i => ad (100 + 3 * i)) (fun i => ad (101 + 3 * i)) (fun i => ad (102 + 3 * i)) (fun i => ad (2 + st i)) (fun i => J.idxOf (100 + 3 * i)) B hf (fun i hi => (iw_get (idx_at (hJ0 i hi).1)).trans (by rw [hGb i hi]))) (cwV 1 hts gX5_quench_X5_canBeQuenched rfl rfl rfl (by decide +kernel) ⟨Nat.le_of_ble_eq_true rfl, Nat.le_of_ble_eq_true rfl⟩) (va_recv Z.2.1 Mz9.1 (ci := 6) (q0 := 0) rfl rfl) rfl hl9.1 (Nat.le_of_ble_eq_true rfl) dX5_quench_57 ⟨Nat.le_of_ble_eq_true rfl, Nat.le_of_ble_eq_true rfl⟩ rfl (fun Hp9 lc9 Mz9 => ?_)
      refine lv_if_ne (tgt := 73) hx hb dX5_quench_60 (by decide) (fun _ => ?_) (fun h => absurd h (hq))
      refine lv_aload_n hx hb dX5_quench_73 rfl (lv_at hl9 0 rfl) ?_
      refine z_getf Z Mz9 hin5 0 rfl rfl 5 (by decide) L231 rfl (v := .int (lo)) rfl dX5_quench_74 ?_
      refine lv_bipush (v := 20) hx hb dX5_quench_77 (by decide) ?_
      refine lv_icmp_lt (tgt := 92) hx hb dX5_quench_79 (by decide) (fun h => absurd h (hlo)) (fun _ => ?_)
      exact z_throw Z hW Mz9 hA hE hl9.1 hfl zThr_S hX9 (is := 234) (text := "there are 20 loads") (by decide +kernel) dX5_quench_82 dX5_quench_85 dX5_quench_86 dX5_quench_88 dX5_quench_91 (Nat.le_of_ble_eq_true rfl) (Nat.le_of_ble_eq_true rfl) ⟨Nat.le_of_ble_eq_true rfl, Nat.le_of_ble_eq_true rfl⟩ ⟨Nat.le_of_ble_eq_true rfl, Nat.le_of_ble_eq_true rfl⟩ rfl
    ·
      exact False.elim (by rcases hmd with h | h <;> first | exact absurd h c_1 | exact absurd c_1 h | exact absurd h (Int32.not_lt.mpr c_1) | exact absurd (Int32.not_le.mp c_1) (Int32.not_lt.mpr h) | exact absurd c_1 (Int32.not_lt.mpr h) | exact absurd h c_2 | exact absurd c_2 h | exact absurd h (Int32.not_lt.mpr c_2) | exact absurd (Int32.not_le.mp c_2) (Int32.not_lt.mpr h) | exact absurd c_2 (Int32.not_lt.mpr h))
