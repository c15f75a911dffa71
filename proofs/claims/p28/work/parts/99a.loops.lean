/-! ===== the law's loops ===== -/
section ZLOOP
variable {p : Program} {l : Launch} {e : Env} {s : State} {m : MethodId} {below : List Frame} {meth : Method} {c : Code} {Q : State → Prop} {b L : Nat} {xs : Nat → Int32} {D : va_G} {T : Nat → ClassId} {ea mi : Nat} {sa : Nat → Nat} {av : Nat → Nat} {o : Nat}
set_option maxHeartbeats 4000000 in
set_option maxRecDepth 100000 in
theorem zl_bils (Z : zC p s m #[Value.ref b] c cL_law 9 RL lw_tbl D T (fun q : Nat => s.heap.size ≤ q)) (hfl : l.stackTraces = false) (hX : zX ea mi sa (fun q : Nat => s.heap.size ≤ q) s s.heap) {C : Nat} (hCb : C < 2 ^ 30) {J : List Nat} {ad N mst bst : Nat → Nat} {ρ : Nat → Nat → Int32} {ga ma aa ca ta : Nat → Int32} (hI : Inv C J N mst bst ρ aa ca) (hGr : GRc N ga) (hO : ad 0 = o)
    (fin : ∀ (ws : va_W) (Hp9 : Heap) (lc9 : List Loc) (sl9 : Array Slot) (cells slots : Nat), cells ≤ 600104 → slots ≤ 7301314 → zM D (fun q : Nat => s.heap.size ≤ q) s.heap ws Hp9 lc9 → lv_has sl9 9 [(7, .int 1)] → W p l e room_1 s m #[Value.ref b] below meth c Hp9 lc9 cells slots Q (F0 m 207 sl9 [])) :
    ∀ (n k : Nat), k + n = N 1 → ∀ (Hp9 : Heap) (lc9 : List Loc) (sl9 : Array Slot) (cells slots : Nat), cells + 320 * n ≤ 600104 → slots + 4480 * n ≤ 7301314 → zM D (fun q : Nat => s.heap.size ≤ q) s.heap (lwR T av ga ma aa ca ta ++ iw J ad (hG ad T ea nof N mst bst ρ)) Hp9 lc9 → lv_has sl9 9 [(8, .int (nI k)), (7, .int 1), (1, .ref o), (2, .ref (av 0)), (4, .ref (av 2)), (5, .ref (av 3))] → W p l e room_1 s m #[Value.ref b] below meth c Hp9 lc9 cells slots Q (F0 m 175 sl9 []) := by
  have hx := Z.1.1
  have hb := Z.1.2.1
  have hts := Z.1.2.2.2.2
  have hg1 : ga 1 = nI (N 1) := hGr.2.1
  have hg3 : ga 3 = nI (N 3) := hGr.2.2.2.1
  have hn1 := I_N1 hI
  intro n
  induction n with
  | zero =>
    intro k hk Hp9 lc9 sl9 cells slots hc9 hs9 Mz9 hl9
    refine lv_iload hx hb dL_law_175 (lv_at hl9 0 rfl) ?_
    refine lv_aload_n hx hb dL_law_177 rfl (lv_at hl9 3 rfl) ?_
    refine lv_iconst (v := 1) hx hb dL_law_178 (by decide) ?_
    refine z_iald Z Mz9 0 (h0 := av 0) (n := 6) (f := ga) rfl (j := 1) (by decide) (by decide) dL_law_179 ?_
    refine zn_top (y := nI (N 1)) hg1 ?_
    refine zn_icmp_ge (a := k) (b := N 1) (tgt := 207) (by omega) (by omega) hx hb dL_law_180 (by decide) (fun _ => ?_) (fun h => absurd h (by omega))
    exact fin _ _ _ _ _ _ (by omega) (by omega) Mz9 (lv_sub hl9 [1] rfl)
  | succ n ih =>
    intro k hk Hp9 lc9 sl9 cells slots hc9 hs9 Mz9 hl9
    refine lv_iload hx hb dL_law_175 (lv_at hl9 0 rfl) ?_
    refine lv_aload_n hx hb dL_law_177 rfl (lv_at hl9 3 rfl) ?_
    refine lv_iconst (v := 1) hx hb dL_law_178 (by decide) ?_
    refine z_iald Z Mz9 0 (h0 := av 0) (n := 6) (f := ga) rfl (j := 1) (by decide) (by decide) dL_law_179 ?_
    refine zn_top (y := nI (N 1)) hg1 ?_
    refine zn_icmp_ge (a := k) (b := N 1) (tgt := 207) (by omega) (by omega) hx hb dL_law_180 (by decide) (fun h => absurd h (by omega)) (fun _ => ?_)
    refine lv_iload hx hb dL_law_183 (lv_at hl9 1 rfl) ?_
    refine lv_if_eq (tgt := 207) hx hb dL_law_185 (by decide) (fun h => absurd h (by decide)) (fun _ => ?_)
    have hl9 : lv_has sl9 9 [(8, .int (nI k)), (7, .int 1), (1, .ref (ad 0)), (2, .ref (av 0)), (4, .ref (av 2)), (5, .ref (av 3))] := by
      rw [hO]
      exact hl9
    refine lv_aload_n hx hb dL_law_188 rfl (lv_at hl9 2 rfl) ?_
    refine lv_aload_n hx hb dL_law_189 rfl (lv_at hl9 3 rfl) ?_
    refine lv_aload hx hb dL_law_190 (lv_at hl9 4 rfl) ?_
    refine lv_aload hx hb dL_law_192 (lv_at hl9 5 rfl) ?_
    refine lv_iload hx hb dL_law_194 (lv_at hl9 0 rfl) ?_
    refine z_callC (As := [.ref (ad 0), .ref (av 0), .ref (av 2), .ref (av 3), .int (nI k)]) (rest := []) (zX_k ea mi sa) hX Z Mz9 (lm_isBillet hfl hCb hI hg3 (i := k) (by omega)) (va_cwS 5 hts gT_law_L_isBillet rfl rfl rfl (by decide +kernel) ⟨Nat.le_of_ble_eq_true rfl, Nat.le_of_ble_eq_true rfl⟩) rfl hl9.1 (Nat.le_of_ble_eq_true rfl) dL_law_196 ⟨by show _ ≤ 600104; omega, by show _ ≤ 7301314; omega⟩ rfl (fun u9 Hp9 lc9 Mz9 => ?_)
    refine lv_istore (lv' := [(7, .int 1), (8, .int (nI k)), (1, .ref (ad 0)), (2, .ref (av 0)), (4, .ref (av 2)), (5, .ref (av 3))]) hx hb dL_law_199 hl9 (by decide) rfl (fun sl9 hl9 => ?_)
    refine lv_iinc (v := nI (k + 1)) (lv' := [(8, .int (nI (k + 1))), (7, .int 1), (1, .ref (ad 0)), (2, .ref (av 0)), (4, .ref (av 2)), (5, .ref (av 3))]) hx hb dL_law_201 hl9 (k := 1) rfl (nI_add (k) 1) (by decide) rfl (fun sl9 hl9 => ?_)
    refine lv_goto (tgt := 175) hx hb dL_law_204 (by decide) ?_
    rw [hO] at hl9
    exact ih (k + 1) (by omega) _ _ _ _ _ (by omega) (by omega) Mz9 hl9
set_option maxHeartbeats 4000000 in
set_option maxRecDepth 100000 in
theorem zl_act (Z : zC p s m #[Value.ref b] c cL_law 9 RL lw_tbl D T (fun q : Nat => s.heap.size ≤ q)) (hfl : l.stackTraces = false) (hX : zX ea mi sa (fun q : Nat => s.heap.size ≤ q) s s.heap) (hL : L ≤ 260) (hXX : va_X b L xs s s.heap) (hbl : b < s.heap.size)
    (fin : ∀ (C : Nat) (J : List Nat) (ad N mst bst : Nat → Nat) (ρ : Nat → Nat → Int32) (ga ma aa ca ta : Nat → Int32), C < 2 ^ 30 → Inv C J N mst bst ρ aa ca → GRc N ga → ad 0 = o → ∀ (Hp9 : Heap) (lc9 : List Loc) (sl9 : Array Slot) (cells slots : Nat), cells ≤ 100000 → slots ≤ 1000000 → zM D (fun q : Nat => s.heap.size ≤ q) s.heap (lwR T av ga ma aa ca ta ++ iw J ad (hG ad T ea nof N mst bst ρ)) Hp9 lc9 → lv_has sl9 9 [(7, .int 1), (1, .ref o), (2, .ref (av 0)), (4, .ref (av 2)), (5, .ref (av 3))] → W p l e room_1 s m #[Value.ref b] below meth c Hp9 lc9 cells slots Q (F0 m 172 sl9 [])) :
    ∀ (n k : Nat), k + n = 62 → ∀ (C : Nat) (J : List Nat) (ad N mst bst : Nat → Nat) (ρ : Nat → Nat → Int32) (ga ma aa ca ta : Nat → Int32), C + n ≤ 100 → Inv C J N mst bst ρ aa ca → GRc N ga → ad 0 = o → ∀ (Hp9 : Heap) (lc9 : List Loc) (sl9 : Array Slot) (cells slots : Nat), cells + 400 * n ≤ 100000 → slots + 5600 * n ≤ 1000000 → zM D (fun q : Nat => s.heap.size ≤ q) s.heap (lwR T av ga ma aa ca ta ++ iw J ad (hG ad T ea nof N mst bst ρ)) Hp9 lc9 → lv_has sl9 9 [(8, .int (nI k)), (7, .int 1), (0, .ref b), (1, .ref o), (2, .ref (av 0)), (3, .ref (av 1)), (4, .ref (av 2)), (5, .ref (av 3)), (6, .ref (av 4))] → W p l e room_1 s m #[Value.ref b] below meth c Hp9 lc9 cells slots Q (F0 m 122 sl9 []) := by
  have hx := Z.1.1
  have hb := Z.1.2.1
  have hts := Z.1.2.2.2.2
  have hS9 : zS b L xs (fun q : Nat => s.heap.size ≤ q) s s.heap := ⟨hXX, hbl, Nat.not_le.mpr hbl⟩
  intro n
  induction n with
  | zero =>
    intro k hk C J ad N mst bst ρ ga ma aa ca ta hC9 hI hGr hO Hp9 lc9 sl9 cells slots hc9 hs9 Mz9 hl9
    refine lv_iload hx hb dL_law_122 (lv_at hl9 0 rfl) ?_
    refine lv_bipush (v := 62) hx hb dL_law_124 (by decide) ?_
    refine zn_icmp_ge (a := k) (b := 62) (tgt := 172) (by omega) (by decide) hx hb dL_law_126 (by decide) (fun _ => ?_) (fun h => absurd h (by omega))
    exact fin C J ad N mst bst ρ ga ma aa ca ta (by omega) hI hGr hO _ _ _ _ _ (by omega) (by omega) Mz9 (lv_sub hl9 [1, 3, 4, 6, 7] rfl)
  | succ n ih =>
    intro k hk C J ad N mst bst ρ ga ma aa ca ta hC9 hI hGr hO Hp9 lc9 sl9 cells slots hc9 hs9 Mz9 hl9
    refine lv_iload hx hb dL_law_122 (lv_at hl9 0 rfl) ?_
    refine lv_bipush (v := 62) hx hb dL_law_124 (by decide) ?_
    refine zn_icmp_ge (a := k) (b := 62) (tgt := 172) (by omega) (by decide) hx hb dL_law_126 (by decide) (fun h => absurd h (by omega)) (fun _ => ?_)
    refine lv_iload hx hb dL_law_129 (lv_at hl9 1 rfl) ?_
    refine lv_if_eq (tgt := 172) hx hb dL_law_131 (by decide) (fun h => absurd h (by decide)) (fun _ => ?_)
    have hl9 : lv_has sl9 9 [(8, .int (nI k)), (7, .int 1), (0, .ref b), (1, .ref (ad 0)), (2, .ref (av 0)), (3, .ref (av 1)), (4, .ref (av 2)), (5, .ref (av 3)), (6, .ref (av 4))] := by
      rw [hO]
      exact hl9
    refine lv_aload_n hx hb dL_law_134 rfl (lv_at hl9 3 rfl) ?_
    refine lv_aload_n hx hb dL_law_135 rfl (lv_at hl9 4 rfl) ?_
    refine lv_aload_n hx hb dL_law_136 rfl (lv_at hl9 5 rfl) ?_
    refine lv_aload hx hb dL_law_137 (lv_at hl9 6 rfl) ?_
    refine lv_aload hx hb dL_law_139 (lv_at hl9 7 rfl) ?_
    refine lv_aload hx hb dL_law_141 (lv_at hl9 8 rfl) ?_
    refine lv_aload_n hx hb dL_law_143 rfl (lv_at hl9 2 rfl) ?_
    refine lv_iconst (v := 2) hx hb dL_law_144 (by decide) ?_
    refine lv_iload hx hb dL_law_145 (lv_at hl9 0 rfl) ?_
    refine zn_imul (a := 2) (b := k) hx hb dL_law_147 ?_
    refine z_callC (As := [.ref b, .int (nI (2 * k))]) (rest := [.ref (av 4), .ref (av 3), .ref (av 2), .ref (av 1), .ref (av 0), .ref (ad 0)]) (zS_k b L xs) hS9 Z Mz9 (lm_at hL (k := 2 * k) (by omega) _) (va_cwS 2 hts gT_law_L_at rfl rfl rfl (by decide +kernel) ⟨Nat.le_of_ble_eq_true rfl, Nat.le_of_ble_eq_true rfl⟩) rfl hl9.1 (Nat.le_of_ble_eq_true rfl) dL_law_148 ⟨by show _ ≤ 600104; omega, by show _ ≤ 7301314; omega⟩ rfl (fun u9 Hp9 lc9 Mz9 => ?_)
    refine lv_aload_n hx hb dL_law_151 rfl (lv_at hl9 2 rfl) ?_
    refine lv_iconst (v := 2) hx hb dL_law_152 (by decide) ?_
    refine lv_iload hx hb dL_law_153 (lv_at hl9 0 rfl) ?_
    refine zn_imul (a := 2) (b := k) hx hb dL_law_155 ?_
    refine lv_iconst (v := 1) hx hb dL_law_156 (by decide) ?_
    refine zn_iadd (a := 2 * k) (b := 1) hx hb dL_law_157 ?_
    refine z_callC (As := [.ref b, .int (nI (2 * k + 1))]) (rest := [.int (atV L xs (2 * k)), .ref (av 4), .ref (av 3), .ref (av 2), .ref (av 1), .ref (av 0), .ref (ad 0)]) (zS_k b L xs) hS9 Z Mz9 (lm_at hL (k := 2 * k + 1) (by omega) _) (va_cwS 2 hts gT_law_L_at rfl rfl rfl (by decide +kernel) ⟨Nat.le_of_ble_eq_true rfl, Nat.le_of_ble_eq_true rfl⟩) rfl hl9.1 (Nat.le_of_ble_eq_true rfl) dL_law_158 ⟨by show _ ≤ 600104; omega, by show _ ≤ 7301314; omega⟩ rfl (fun u9 Hp9 lc9 Mz9 => ?_)
    refine z_callC (As := [.ref (ad 0), .ref (av 0), .ref (av 1), .ref (av 2), .ref (av 3), .ref (av 4), .int (atV L xs (2 * k)), .int (atV L xs (2 * k + 1))]) (rest := []) (zX_k ea mi sa) hX Z Mz9 (lm_acts hfl (by omega) hI hGr _ _) (va_cwS 8 hts gT_law_L_acts rfl rfl rfl (by decide +kernel) ⟨Nat.le_of_ble_eq_true rfl, Nat.le_of_ble_eq_true rfl⟩) rfl hl9.1 (Nat.le_of_ble_eq_true rfl) dL_law_161 ⟨by show _ ≤ 600104; omega, by show _ ≤ 7301314; omega⟩ rfl (fun u9 Hp9 lc9 Mz9 => ?_)
    obtain ⟨⟨⟨J1, ad1, N1, mst1, bst1, ρ1⟩, ga1, ma1, aa1, ca1, ta1⟩, hI1, hGr1, hO1⟩ := u9
    have Mz9 : zM D (fun q : Nat => s.heap.size ≤ q) s.heap (lwR T av ga1 ma1 aa1 ca1 ta1 ++ iw J1 ad1 (hG ad1 T ea nof N1 mst1 bst1 ρ1)) Hp9 lc9 := Mz9
    refine lv_istore (lv' := [(7, .int 1), (8, .int (nI k)), (0, .ref b), (1, .ref (ad 0)), (2, .ref (av 0)), (3, .ref (av 1)), (4, .ref (av 2)), (5, .ref (av 3)), (6, .ref (av 4))]) hx hb dL_law_164 hl9 (by decide) rfl (fun sl9 hl9 => ?_)
    refine lv_iinc (v := nI (k + 1)) (lv' := [(8, .int (nI (k + 1))), (7, .int 1), (0, .ref b), (1, .ref (ad 0)), (2, .ref (av 0)), (3, .ref (av 1)), (4, .ref (av 2)), (5, .ref (av 3)), (6, .ref (av 4))]) hx hb dL_law_166 hl9 (k := 1) rfl (nI_add (k) 1) (by decide) rfl (fun sl9 hl9 => ?_)
    refine lv_goto (tgt := 122) hx hb dL_law_169 (by decide) ?_
    rw [hO] at hl9
    exact ih (k + 1) (by omega) (C + 1) J1 ad1 N1 mst1 bst1 ρ1 ga1 ma1 aa1 ca1 ta1 (by omega) hI1 hGr1 (hO1.trans hO) _ _ _ _ _ (by omega) (by omega) Mz9 hl9
set_option maxHeartbeats 4000000 in
set_option maxRecDepth 100000 in
theorem zl_mk (Z : zC p s m #[Value.ref b] c cL_law 9 RL lw_tbl D T (fun q : Nat => s.heap.size ≤ q)) (hfl : l.stackTraces = false) (hX : zX ea mi sa (fun q : Nat => s.heap.size ≤ q) s s.heap) (hL : L ≤ 260) (hXX : va_X b L xs s s.heap) (hbl : b < s.heap.size)
    (fin : ∀ (C : Nat) (J : List Nat) (ad N mst bst : Nat → Nat) (ρ : Nat → Nat → Int32) (ga ma aa ca ta : Nat → Int32), C ≤ 10 → Inv C J N mst bst ρ aa ca → GRc N ga → ad 0 = o → ∀ (Hp9 : Heap) (lc9 : List Loc) (sl9 : Array Slot) (cells slots : Nat), cells ≤ 10000 → slots ≤ 100000 → zM D (fun q : Nat => s.heap.size ≤ q) s.heap (lwR T av ga ma aa ca ta ++ iw J ad (hG ad T ea nof N mst bst ρ)) Hp9 lc9 → lv_has sl9 9 [(8, .int (nI 2)), (7, .int 1), (0, .ref b), (1, .ref o), (2, .ref (av 0)), (3, .ref (av 1)), (4, .ref (av 2)), (5, .ref (av 3)), (6, .ref (av 4))] → W p l e room_1 s m #[Value.ref b] below meth c Hp9 lc9 cells slots Q (F0 m 122 sl9 []))
    {J : List Nat} {ad N mst bst : Nat → Nat} {ρ : Nat → Nat → Int32} {ga ma aa ca ta : Nat → Int32} (hI : Inv 0 J N mst bst ρ aa ca) (hGr : GRc N ga) (hO : ad 0 = o) {Hp9 : Heap} {lc9 : List Loc} {sl9 : Array Slot} {cells slots : Nat} (hc9 : cells ≤ 100) (hs9 : slots ≤ 2000) (Mz9 : zM D (fun q : Nat => s.heap.size ≤ q) s.heap (lwR T av ga ma aa ca ta ++ iw J ad (hG ad T ea nof N mst bst ρ)) Hp9 lc9) (hl9 : lv_has sl9 9 [(0, .ref b), (1, .ref o), (2, .ref (av 0)), (3, .ref (av 1)), (4, .ref (av 2)), (5, .ref (av 3)), (6, .ref (av 4))]) : W p l e room_1 s m #[Value.ref b] below meth c Hp9 lc9 cells slots Q (F0 m 36 sl9 []) := by
  have hx := Z.1.1
  have hb := Z.1.2.1
  have hts := Z.1.2.2.2.2
  have hS9 : zS b L xs (fun q : Nat => s.heap.size ≤ q) s s.heap := ⟨hXX, hbl, Nat.not_le.mpr hbl⟩
  have hl9 : lv_has sl9 9 [(0, .ref b), (1, .ref (ad 0)), (2, .ref (av 0)), (3, .ref (av 1)), (4, .ref (av 2)), (5, .ref (av 3)), (6, .ref (av 4))] := by
    rw [hO]
    exact hl9
  refine lv_aload_n hx hb dL_law_36 rfl (lv_at hl9 1 rfl) ?_
  refine lv_aload_n hx hb dL_law_37 rfl (lv_at hl9 2 rfl) ?_
  refine lv_aload_n hx hb dL_law_38 rfl (lv_at hl9 3 rfl) ?_
  refine lv_aload hx hb dL_law_39 (lv_at hl9 4 rfl) ?_
  refine lv_aload hx hb dL_law_41 (lv_at hl9 6 rfl) ?_
  refine lv_iconst (v := 0) hx hb dL_law_43 (by decide) ?_
  refine lv_aload_n hx hb dL_law_44 rfl (lv_at hl9 0 rfl) ?_
  refine lv_iconst (v := 0) hx hb dL_law_45 (by decide) ?_
  refine zn_top (y := nI 0) rfl ?_
  refine z_callC (As := [.ref b, .int (nI (0))]) (rest := [.int 0, .ref (av 4), .ref (av 2), .ref (av 1), .ref (av 0), .ref (ad 0)]) (zS_k b L xs) hS9 Z Mz9 (lm_at hL (k := 0) (by omega) _) (va_cwS 2 hts gT_law_L_at rfl rfl rfl (by decide +kernel) ⟨Nat.le_of_ble_eq_true rfl, Nat.le_of_ble_eq_true rfl⟩) rfl hl9.1 (Nat.le_of_ble_eq_true rfl) dL_law_46 ⟨by show _ ≤ 600104; omega, by show _ ≤ 7301314; omega⟩ rfl (fun u9 Hp9 lc9 Mz9 => ?_)
  refine z_callC (As := [.ref (ad 0), .ref (av 0), .ref (av 1), .ref (av 2), .ref (av 4), .int 0, .int (atV L xs 0)]) (rest := []) (zX_k ea mi sa) hX Z Mz9 (lm_makes hfl hI hGr _ _) (va_cwS 7 hts gT_law_L_makes rfl rfl rfl (by decide +kernel) ⟨Nat.le_of_ble_eq_true rfl, Nat.le_of_ble_eq_true rfl⟩) rfl hl9.1 (Nat.le_of_ble_eq_true rfl) dL_law_49 ⟨by show _ ≤ 600104; omega, by show _ ≤ 7301314; omega⟩ rfl (fun u9 Hp9 lc9 Mz9 => ?_)
  obtain ⟨⟨⟨J1, ad1, N1, mst1, bst1, ρ1⟩, ga1, ma1, aa1, ca1, ta1⟩, hI1, hGr1, hO1⟩ := u9
  have Mz9 : zM D (fun q : Nat => s.heap.size ≤ q) s.heap (lwR T av ga1 ma1 aa1 ca1 ta1 ++ iw J1 ad1 (hG ad1 T ea nof N1 mst1 bst1 ρ1)) Hp9 lc9 := Mz9
  have hO1 : ad1 0 = o := hO1.trans hO
  rw [hO] at hl9
  refine lv_if_eq (tgt := 116) hx hb dL_law_52 (by decide) (fun h => absurd h (by decide)) (fun _ => ?_)
  have hl9 : lv_has sl9 9 [(0, .ref b), (1, .ref (ad1 0)), (2, .ref (av 0)), (3, .ref (av 1)), (4, .ref (av 2)), (5, .ref (av 3)), (6, .ref (av 4))] := by
    rw [hO1]
    exact hl9
  refine lv_aload_n hx hb dL_law_55 rfl (lv_at hl9 1 rfl) ?_
  refine lv_aload_n hx hb dL_law_56 rfl (lv_at hl9 2 rfl) ?_
  refine lv_aload_n hx hb dL_law_57 rfl (lv_at hl9 3 rfl) ?_
  refine lv_aload hx hb dL_law_58 (lv_at hl9 4 rfl) ?_
  refine lv_aload hx hb dL_law_60 (lv_at hl9 6 rfl) ?_
  refine lv_iconst (v := 2) hx hb dL_law_62 (by decide) ?_
  refine lv_aload_n hx hb dL_law_63 rfl (lv_at hl9 0 rfl) ?_
  refine lv_iconst (v := 1) hx hb dL_law_64 (by decide) ?_
  refine zn_top (y := nI 1) rfl ?_
  refine z_callC (As := [.ref b, .int (nI (1))]) (rest := [.int 2, .ref (av 4), .ref (av 2), .ref (av 1), .ref (av 0), .ref (ad1 0)]) (zS_k b L xs) hS9 Z Mz9 (lm_at hL (k := 1) (by omega) _) (va_cwS 2 hts gT_law_L_at rfl rfl rfl (by decide +kernel) ⟨Nat.le_of_ble_eq_true rfl, Nat.le_of_ble_eq_true rfl⟩) rfl hl9.1 (Nat.le_of_ble_eq_true rfl) dL_law_65 ⟨by show _ ≤ 600104; omega, by show _ ≤ 7301314; omega⟩ rfl (fun u9 Hp9 lc9 Mz9 => ?_)
  refine z_callC (As := [.ref (ad1 0), .ref (av 0), .ref (av 1), .ref (av 2), .ref (av 4), .int 2, .int (atV L xs 1)]) (rest := []) (zX_k ea mi sa) hX Z Mz9 (lm_makes hfl hI1 hGr1 _ _) (va_cwS 7 hts gT_law_L_makes rfl rfl rfl (by decide +kernel) ⟨Nat.le_of_ble_eq_true rfl, Nat.le_of_ble_eq_true rfl⟩) rfl hl9.1 (Nat.le_of_ble_eq_true rfl) dL_law_68 ⟨by show _ ≤ 600104; omega, by show _ ≤ 7301314; omega⟩ rfl (fun u9 Hp9 lc9 Mz9 => ?_)
  obtain ⟨⟨⟨J2, ad2, N2, mst2, bst2, ρ2⟩, ga2, ma2, aa2, ca2, ta2⟩, hI2, hGr2, hO2⟩ := u9
  have Mz9 : zM D (fun q : Nat => s.heap.size ≤ q) s.heap (lwR T av ga2 ma2 aa2 ca2 ta2 ++ iw J2 ad2 (hG ad2 T ea nof N2 mst2 bst2 ρ2)) Hp9 lc9 := Mz9
  have hO2 : ad2 0 = o := hO2.trans hO1
  rw [hO1] at hl9
  refine lv_if_eq (tgt := 116) hx hb dL_law_71 (by decide) (fun h => absurd h (by decide)) (fun _ => ?_)
  have hl9 : lv_has sl9 9 [(0, .ref b), (1, .ref (ad2 0)), (2, .ref (av 0)), (3, .ref (av 1)), (4, .ref (av 2)), (5, .ref (av 3)), (6, .ref (av 4))] := by
    rw [hO2]
    exact hl9
  refine lv_aload_n hx hb dL_law_74 rfl (lv_at hl9 1 rfl) ?_
  refine lv_aload_n hx hb dL_law_75 rfl (lv_at hl9 2 rfl) ?_
  refine lv_aload_n hx hb dL_law_76 rfl (lv_at hl9 3 rfl) ?_
  refine lv_aload hx hb dL_law_77 (lv_at hl9 4 rfl) ?_
  refine lv_aload hx hb dL_law_79 (lv_at hl9 6 rfl) ?_
  refine lv_iconst (v := 2) hx hb dL_law_81 (by decide) ?_
  refine lv_aload_n hx hb dL_law_82 rfl (lv_at hl9 0 rfl) ?_
  refine lv_iconst (v := 2) hx hb dL_law_83 (by decide) ?_
  refine zn_top (y := nI 2) rfl ?_
  refine z_callC (As := [.ref b, .int (nI (2))]) (rest := [.int 2, .ref (av 4), .ref (av 2), .ref (av 1), .ref (av 0), .ref (ad2 0)]) (zS_k b L xs) hS9 Z Mz9 (lm_at hL (k := 2) (by omega) _) (va_cwS 2 hts gT_law_L_at rfl rfl rfl (by decide +kernel) ⟨Nat.le_of_ble_eq_true rfl, Nat.le_of_ble_eq_true rfl⟩) rfl hl9.1 (Nat.le_of_ble_eq_true rfl) dL_law_84 ⟨by show _ ≤ 600104; omega, by show _ ≤ 7301314; omega⟩ rfl (fun u9 Hp9 lc9 Mz9 => ?_)
  refine z_callC (As := [.ref (ad2 0), .ref (av 0), .ref (av 1), .ref (av 2), .ref (av 4), .int 2, .int (atV L xs 2)]) (rest := []) (zX_k ea mi sa) hX Z Mz9 (lm_makes hfl hI2 hGr2 _ _) (va_cwS 7 hts gT_law_L_makes rfl rfl rfl (by decide +kernel) ⟨Nat.le_of_ble_eq_true rfl, Nat.le_of_ble_eq_true rfl⟩) rfl hl9.1 (Nat.le_of_ble_eq_true rfl) dL_law_87 ⟨by show _ ≤ 600104; omega, by show _ ≤ 7301314; omega⟩ rfl (fun u9 Hp9 lc9 Mz9 => ?_)
  obtain ⟨⟨⟨J3, ad3, N3, mst3, bst3, ρ3⟩, ga3, ma3, aa3, ca3, ta3⟩, hI3, hGr3, hO3⟩ := u9
  have Mz9 : zM D (fun q : Nat => s.heap.size ≤ q) s.heap (lwR T av ga3 ma3 aa3 ca3 ta3 ++ iw J3 ad3 (hG ad3 T ea nof N3 mst3 bst3 ρ3)) Hp9 lc9 := Mz9
  have hO3 : ad3 0 = o := hO3.trans hO2
  rw [hO2] at hl9
  refine lv_if_eq (tgt := 116) hx hb dL_law_90 (by decide) (fun h => absurd h (by decide)) (fun _ => ?_)
  have hl9 : lv_has sl9 9 [(0, .ref b), (1, .ref (ad3 0)), (2, .ref (av 0)), (3, .ref (av 1)), (4, .ref (av 2)), (5, .ref (av 3)), (6, .ref (av 4))] := by
    rw [hO3]
    exact hl9
  refine lv_aload_n hx hb dL_law_93 rfl (lv_at hl9 1 rfl) ?_
  refine lv_aload_n hx hb dL_law_94 rfl (lv_at hl9 2 rfl) ?_
  refine lv_aload_n hx hb dL_law_95 rfl (lv_at hl9 3 rfl) ?_
  refine lv_aload hx hb dL_law_96 (lv_at hl9 4 rfl) ?_
  refine lv_aload hx hb dL_law_98 (lv_at hl9 6 rfl) ?_
  refine lv_iconst (v := 1) hx hb dL_law_100 (by decide) ?_
  refine lv_aload_n hx hb dL_law_101 rfl (lv_at hl9 0 rfl) ?_
  refine lv_iconst (v := 3) hx hb dL_law_102 (by decide) ?_
  refine zn_top (y := nI 3) rfl ?_
  refine z_callC (As := [.ref b, .int (nI (3))]) (rest := [.int 1, .ref (av 4), .ref (av 2), .ref (av 1), .ref (av 0), .ref (ad3 0)]) (zS_k b L xs) hS9 Z Mz9 (lm_at hL (k := 3) (by omega) _) (va_cwS 2 hts gT_law_L_at rfl rfl rfl (by decide +kernel) ⟨Nat.le_of_ble_eq_true rfl, Nat.le_of_ble_eq_true rfl⟩) rfl hl9.1 (Nat.le_of_ble_eq_true rfl) dL_law_103 ⟨by show _ ≤ 600104; omega, by show _ ≤ 7301314; omega⟩ rfl (fun u9 Hp9 lc9 Mz9 => ?_)
  refine z_callC (As := [.ref (ad3 0), .ref (av 0), .ref (av 1), .ref (av 2), .ref (av 4), .int 1, .int (atV L xs 3)]) (rest := []) (zX_k ea mi sa) hX Z Mz9 (lm_makes hfl hI3 hGr3 _ _) (va_cwS 7 hts gT_law_L_makes rfl rfl rfl (by decide +kernel) ⟨Nat.le_of_ble_eq_true rfl, Nat.le_of_ble_eq_true rfl⟩) rfl hl9.1 (Nat.le_of_ble_eq_true rfl) dL_law_106 ⟨by show _ ≤ 600104; omega, by show _ ≤ 7301314; omega⟩ rfl (fun u9 Hp9 lc9 Mz9 => ?_)
  obtain ⟨⟨⟨J4, ad4, N4, mst4, bst4, ρ4⟩, ga4, ma4, aa4, ca4, ta4⟩, hI4, hGr4, hO4⟩ := u9
  have Mz9 : zM D (fun q : Nat => s.heap.size ≤ q) s.heap (lwR T av ga4 ma4 aa4 ca4 ta4 ++ iw J4 ad4 (hG ad4 T ea nof N4 mst4 bst4 ρ4)) Hp9 lc9 := Mz9
  have hO4 : ad4 0 = o := hO4.trans hO3
  rw [hO3] at hl9
  refine lv_if_eq (tgt := 116) hx hb dL_law_109 (by decide) (fun h => absurd h (by decide)) (fun _ => ?_)
  refine lv_iconst (v := 1) hx hb dL_law_112 (by decide) ?_
  refine lv_goto (tgt := 117) hx hb dL_law_113 (by decide) ?_
  refine lv_istore (lv' := [(7, .int 1), (0, .ref b), (1, .ref o), (2, .ref (av 0)), (3, .ref (av 1)), (4, .ref (av 2)), (5, .ref (av 3)), (6, .ref (av 4))]) hx hb dL_law_117 hl9 (by decide) rfl (fun sl9 hl9 => ?_)
  refine lv_iconst (v := 2) hx hb dL_law_119 (by decide) ?_
  refine lv_istore (lv' := [(8, .int 2), (7, .int 1), (0, .ref b), (1, .ref o), (2, .ref (av 0)), (3, .ref (av 1)), (4, .ref (av 2)), (5, .ref (av 3)), (6, .ref (av 4))]) hx hb dL_law_120 hl9 (by decide) rfl (fun sl9 hl9 => ?_)
  exact fin _ J4 ad4 N4 mst4 bst4 ρ4 ga4 ma4 aa4 ca4 ta4 (by decide) hI4 hGr4 hO4 _ _ _ _ _ (by omega) (by omega) Mz9 hl9
end ZLOOP
