/-! ===== the law's loop ===== -/
theorem zl_and31 (x : Int32) : ∃ v, v < 32 ∧ x &&& 31 = nI v := by
  refine ⟨x.toBitVec.toNat &&& 31, Nat.lt_succ_of_le Nat.and_le_right, ?_⟩
  refine Int32.toBitVec_inj.mp (BitVec.eq_of_toNat_eq ?_)
  have h : x.toBitVec.toNat &&& 31 < 2 ^ 32 := Nat.lt_of_le_of_lt Nat.and_le_right (by decide)
  have e : (BitVec.ofNat 32 (x.toBitVec.toNat &&& 31)).toNat = x.toBitVec.toNat &&& 31 := by rw [BitVec.toNat_ofNat, Nat.mod_eq_of_lt h]
  exact (BitVec.toNat_and x.toBitVec 31#32).trans e.symm
theorem zl_lim5 {L i : Nat} (hL : L < 2 ^ 31) (hi : i < 2 ^ 31) : nI L - 5 < nI i ↔ L < i + 5 := by
  by_cases h : 5 ≤ L
  · have e : nI L - 5 = nI (L - 5) := pk_sub h
    rw [e, nI_ltI (by omega) hi]
    omega
  · have e : L = 0 ∨ L = 1 ∨ L = 2 ∨ L = 3 ∨ L = 4 := by omega
    have hn : nI L - 5 < 0 := by rcases e with rfl | rfl | rfl | rfl | rfl <;> decide +kernel
    exact ⟨fun _ => by omega, fun _ => Int32.lt_of_lt_of_le hn (nI_pos' hi)⟩
section LOOP
variable {p : Program} {l : Launch} {e : Env} {R : Room} {s : State} {m : MethodId} {args : Array Value} {below : List Frame} {meth : Method} {c : Code} {Q : State → Prop}
variable {D : va_G} {T : Nat → ClassId} {A : Nat → Prop} {ea mi : Nat} {sa : Nat → Nat} {b L o om out c0 s0 : Nat} {am : Nat → Nat} {xs : Nat → Int32}
theorem zl_at0 {om : Nat} {am ad : Nat → Nat} {T : Nat → ClassId} {ea C : Nat} {J : List Nat} {N mst bst : Nat → Nat} {ρ σ : Nat → Nat → Int32} {f : Nat → Int64} (hI : Inv C J N mst bst ρ σ) : (mW om am T σ ++ Wk J ad T ea f N mst bst ρ)[(mW om am T σ).length + (1 + J.idxOf 0)]? = some (ad 0, .inr (6, hsF ad (ρ 0 0))) := by
  have h0 : (0 : Nat) ∈ J := (hI.1.2.1 0).mpr (Or.inl (by decide))
  rw [List.getElem?_append_right (Nat.le_add_right _ _), Nat.add_sub_cancel_left, Nat.add_comm 1]
  unfold Wk
  rw [List.getElem?_cons_succ]
  exact (iw_get (idx_at h0)).trans rfl
/-- at the loop's head behind C calls -/
def zl_At (p : Program) (l : Launch) (e : Env) (R : Room) (s : State) (m : MethodId) (args : Array Value) (below : List Frame) (meth : Method) (c : Code) (Q : State → Prop) (D : va_G) (T : Nat → ClassId) (A : Nat → Prop) (ea b o om out c0 s0 : Nat) (am : Nat → Nat) (C : Nat) : Prop :=
  ∀ (ad : Nat → Nat) (J : List Nat) (N mst bst : Nat → Nat) (ρ σ : Nat → Nat → Int32) (f : Nat → Int64) (Hp9 : Heap) (lc9 : List Loc) (sl9 : Array Slot), ad 16 = out → ad 0 = o → Inv C J N mst bst ρ σ → zM D A s.heap (mW om am T σ ++ Wk J ad T ea f N mst bst ρ) Hp9 lc9 → lv_has sl9 7 [(4, .int (nI (5 * C))), (0, .ref b), (1, .ref o), (2, .ref om), (3, .ref out)] →
    W p l e R s m args below meth c Hp9 lc9 (c0 + 5 * C) (s0 + 70 * C) Q (F0 m 23 sl9 [])
/-- behind a call -/
theorem zl_after (Z : zC p s m args c cL_law 7 RL lw_tbl D T A) {C mc ms : Nat} (ih : zl_At p l e R s m args below meth c Q D T A ea b o om out c0 s0 am (C + 1)) (hmc : mc ≤ 5 ∧ ms ≤ 70) {ad : Nat → Nat} {f' : Nat → Int64} {Wc : va_W} {σ' : Nat → Nat → Int32} (h16 : ad 16 = out) (h0 : ad 0 = o)
    (hfin : ∃ (ad' : Nat → Nat) (J' : List Nat) (N' mst' bst' : Nat → Nat) (ρ' : Nat → Nat → Int32), ad' 16 = ad 16 ∧ ad' 0 = ad 0 ∧ (∃ gb : va_W, List.Perm Wc (iw J' ad' (hG ad' T ea f' N' mst' bst' ρ') ++ gb)) ∧ Inv (C + 1) J' N' mst' bst' ρ' σ') {Hp9 : Heap} {lc9 : List Loc} {sl9 : Array Slot}
    (Mz9 : zM D A s.heap (mW om am T σ' ++ (ouW out T f' :: Wc)) Hp9 lc9) (hl9 : lv_has sl9 7 [(4, .int (nI (5 * C))), (0, .ref b), (1, .ref o), (2, .ref om), (3, .ref out)]) :
    W p l e R s m args below meth c Hp9 lc9 (c0 + 5 * C + mc) (s0 + 70 * C + ms) Q (F0 m 1784 sl9 []) := by
  have hx := Z.1.1
  have hb := Z.1.2.1
  obtain ⟨ad', J', N', mst', bst', ρ', e16, e0, hp, hI⟩ := hfin
  have M2 := z_norm hp Mz9
  refine lv_iinc (v := nI (5 * (C + 1))) (lv' := [(4, .int (nI (5 * (C + 1)))), (0, .ref b), (1, .ref o), (2, .ref om), (3, .ref out)]) hx hb dL_law_1784 hl9 (k := 0) rfl (nI_add (5 * C) 5) (by decide) rfl (fun sl9 hl9 => ?_)
  refine lv_goto (tgt := 23) hx hb dL_law_1787 (by decide) ?_
  refine W.widen (k := c0 + 5 * (C + 1)) (n := s0 + 70 * (C + 1)) (by omega) (by omega) ?_
  refine ih ad' J' N' mst' bst' ρ' σ' f' _ _ _ (e16.trans h16) (e0.trans h0) hI ?_ hl9
  have e : Wk J' ad' T ea f' N' mst' bst' ρ' = ouW out T f' :: iw J' ad' (hG ad' T ea f' N' mst' bst' ρ') := by
    unfold Wk
    rw [e16.trans h16]
  rw [e]
  exact M2

set_option maxHeartbeats 4000000 in
set_option maxRecDepth 100000 in
theorem zl_step (Z : zC p s m args c cL_law 7 RL lw_tbl D T A) (hfl : l.stackTraces = false) (hR : 11 ≤ R.frames ∧ 404 ≤ R.locals) (hXX : zX ea mi sa A s s.heap) (hX9 : va_X b L xs s s.heap) (hbl : b < s.heap.size) (hbA : ¬ A b) (hL2 : L ≤ 2560) {C : Nat} (hC : 5 * C + 4 < L) (hRc : c0 + 5 * C + 5 ≤ R.cells ∧ s0 + 70 * C + 70 ≤ R.slots)
    (ih : zl_At p l e R s m args below meth c Q D T A ea b o om out c0 s0 am (C + 1)) {ad : Nat → Nat} {J : List Nat} {N mst bst : Nat → Nat} {ρ σ : Nat → Nat → Int32} {f : Nat → Int64} {Hp9 : Heap} {lc9 : List Loc} {sl9 : Array Slot} (h16 : ad 16 = out) (h0 : ad 0 = o) (hI : Inv C J N mst bst ρ σ) (Mz9 : zM D A s.heap (mW om am T σ ++ Wk J ad T ea f N mst bst ρ) Hp9 lc9) (hl9 : lv_has sl9 7 [(4, .int (nI (5 * C))), (0, .ref b), (1, .ref o), (2, .ref om), (3, .ref out)]) :
    W p l e R s m args below meth c Hp9 lc9 (c0 + 5 * C) (s0 + 70 * C) Q (F0 m 32 sl9 []) := by
  have hx := Z.1.1
  have hb := Z.1.2.1
  have hC6 : C ≤ 600 := by omega
  have hL3 : L < 2 ^ 31 := Nat.lt_of_le_of_lt hL2 (by decide)
  refine lv_aload_n hx hb dL_law_32 rfl (lv_at hl9 1 rfl) ?_
  refine lv_iload hx hb dL_law_33 (lv_at hl9 0 rfl) ?_
  refine z_sld Z Mz9 hX9 hbl hbA (j := 5 * C) (by omega) hL3 dL_law_35 ?_
  refine lv_bipush (v := 31) hx hb dL_law_36 (by decide) ?_
  refine lv_iand hx hb dL_law_38 ?_
  obtain ⟨v, hv, ev⟩ := zl_and31 (xs (5 * C))
  refine zn_top ev ?_
  clear ev
  subst h16
  subst h0
  by_cases hv2 : 25 ≤ v
  · refine lv_tableOut (tgt := 1784) hx hb dL_law_39 (Or.inr (by rw [nI_toInt (by omega)]; omega)) (by decide) ?_
    exact zl_after Z (mc := 0) (ms := 0) ih ⟨by decide, by decide⟩ rfl rfl ⟨ad, J, N, mst, bst, ρ, rfl, rfl, ⟨[], by rw [List.append_nil]⟩, Inv_read (Nat.le_succ C) hI (fun _ _ => rfl)⟩ Mz9 hl9
  have hv3 : v = 0 ∨ v = 1 ∨ v = 2 ∨ v = 3 ∨ v = 4 ∨ v = 5 ∨ v = 6 ∨ v = 7 ∨ v = 8 ∨ v = 9 ∨ v = 10 ∨ v = 11 ∨ v = 12 ∨ v = 13 ∨ v = 14 ∨ v = 15 ∨ v = 16 ∨ v = 17 ∨ v = 18 ∨ v = 19 ∨ v = 20 ∨ v = 21 ∨ v = 22 ∨ v = 23 ∨ v = 24 := by omega
  rcases hv3 with rfl | rfl | rfl | rfl | rfl | rfl | rfl | rfl | rfl | rfl | rfl | rfl | rfl | rfl | rfl | rfl | rfl | rfl | rfl | rfl | rfl | rfl | rfl | rfl | rfl
  · refine lv_tableIn (off := 113) (tgt := 152) hx hb dL_law_39 (by decide +kernel) (by decide +kernel) (by decide +kernel) (by decide) ?_
    obtain ⟨k, σ', rm, mc, ms, ρ', hw, hrm, hmc, hm, h31, hI2⟩ := st_steel (T := T) (D := D) (ea := ea) (mi := mi) (sa := sa) (om := om) (am := am) (ad := ad) (f := f) hfl hC6 hI (xs (5 * C + 1)) (xs (5 * C + 2)) (xs (5 * C + 3)) (xs (5 * C + 4))
    refine lc_steel (S1 := Unit) (S2 := Unit) (u2 := ()) (σ' := fun _ => σ') Z hR hXX hX9 hbl hbA hL3 (by omega) hw hrm (fun _ j _ => ?_) (fun _ => ?_) hm h31 ⟨by omega, by omega⟩ Mz9 hl9 (fun _ Hp9 lc9 sl9 Mz9 hl9 => ?_)
    · unfold iw
      rw [List.map_cons, List.map_cons, List.map_map, List.map_map]
      rfl
    · unfold iw
      rw [List.length_cons, List.length_cons, List.length_map, List.length_map]
      exact Nat.le_refl _
    · exact zl_after Z ih hmc rfl rfl ⟨ad, J, N, mst, bst, ρ', rfl, rfl, ⟨[], by rw [List.append_nil]⟩, hI2⟩ Mz9 hl9
  · refine lv_tableIn (off := 185) (tgt := 224) hx hb dL_law_39 (by decide +kernel) (by decide +kernel) (by decide +kernel) (by decide) ?_
    obtain ⟨S1, S2, Wc', k, rv, σ', f', rm, mc, ms, hw, hrm, hmc, hf, hlen, hm, h31, hk, hfin⟩ := st_melt (T := T) (D := D) (ea := ea) (mi := mi) (sa := sa) (om := om) (am := am) (ad := ad) (f := f) hfl hC6 hI (xs (5 * C + 1))
    exact lc_melt Z hR hXX hX9 hbl hbA hL3 (by omega) hw hrm hf hlen hm h31 hk ⟨by omega, by omega⟩ Mz9 hl9 (fun u1 u2 Hp9 lc9 sl9 Mz9 hl9 => zl_after Z ih hmc rfl rfl (hfin u1 u2) Mz9 hl9)
  · refine lv_tableIn (off := 241) (tgt := 280) hx hb dL_law_39 (by decide +kernel) (by decide +kernel) (by decide +kernel) (by decide) ?_
    obtain ⟨S1, S2, Wc', k, rv, σ', f', rm, mc, ms, hw, hrm, hmc, hf, hlen, hm, h31, hk, hfin⟩ := st_billet (T := T) (D := D) (ea := ea) (mi := mi) (sa := sa) (om := om) (am := am) (ad := ad) (f := f) hfl hC6 hI (xs (5 * C + 1)) (xs (5 * C + 2))
    exact lc_billet Z hR hXX hX9 hbl hbA hL3 (by omega) hw hrm hf hlen hm h31 hk ⟨by omega, by omega⟩ Mz9 hl9 (fun u1 u2 Hp9 lc9 sl9 Mz9 hl9 => zl_after Z ih hmc rfl rfl (hfin u1 u2) Mz9 hl9)
  · refine lv_tableIn (off := 309) (tgt := 348) hx hb dL_law_39 (by decide +kernel) (by decide +kernel) (by decide +kernel) (by decide) ?_
    obtain ⟨S1, S2, Wc', k, rv, σ', f', rm, mc, ms, hw, hrm, hmc, hf, hlen, hm, h31, hk, hfin⟩ := st_billetIs (T := T) (D := D) (ea := ea) (mi := mi) (sa := sa) (om := om) (am := am) (ad := ad) (f := f) hfl hC6 hI (xs (5 * C + 1)) (xs (5 * C + 2))
    exact lc_billetIs Z hR hXX hX9 hbl hbA hL3 (by omega) hw hrm hf hlen hm h31 hk ⟨by omega, by omega⟩ Mz9 hl9 (fun u1 u2 Hp9 lc9 sl9 Mz9 hl9 => zl_after Z ih hmc rfl rfl (hfin u1 u2) Mz9 hl9)
  · refine lv_tableIn (off := 377) (tgt := 416) hx hb dL_law_39 (by decide +kernel) (by decide +kernel) (by decide +kernel) (by decide) ?_
    obtain ⟨S1, S2, Wc', k, rv, σ', f', rm, mc, ms, hw, hrm, hmc, hf, hlen, hm, h31, hk, hfin⟩ := st_area (T := T) (D := D) (ea := ea) (mi := mi) (sa := sa) (om := om) (am := am) (ad := ad) (f := f) hfl hI (xs (5 * C + 1)) (xs (5 * C + 2))
    exact lc_area Z hR hXX hX9 hbl hbA hL3 (by omega) hw hrm hf hlen hm h31 hk ⟨by omega, by omega⟩ Mz9 hl9 (fun u1 u2 Hp9 lc9 sl9 Mz9 hl9 => zl_after Z ih hmc rfl rfl (hfin u1 u2) Mz9 hl9)
  · refine lv_tableIn (off := 445) (tgt := 484) hx hb dL_law_39 (by decide +kernel) (by decide +kernel) (by decide +kernel) (by decide) ?_
    obtain ⟨S1, S2, Wc', k, rv, σ', f', rm, mc, ms, hw, hrm, hmc, hf, hlen, hm, h31, hk, hfin⟩ := st_balances (T := T) (D := D) (ea := ea) (mi := mi) (sa := sa) (om := om) (am := am) (ad := ad) (f := f) hfl hC6 hI (xs (5 * C + 1))
    exact lc_balances Z hR hXX hX9 hbl hbA hL3 (by omega) hw hrm hf hlen hm h31 hk ⟨by omega, by omega⟩ Mz9 hl9 (fun u1 u2 Hp9 lc9 sl9 Mz9 hl9 => zl_after Z ih hmc rfl rfl (hfin u1 u2) Mz9 hl9)
  · refine lv_tableIn (off := 508) (tgt := 547) hx hb dL_law_39 (by decide +kernel) (by decide +kernel) (by decide +kernel) (by decide) ?_
    obtain ⟨S1, S2, Wc', k, rv, σ', f', rm, mc, ms, hw, hrm, hmc, hf, hlen, hm, h31, hk, hfin⟩ := st_heat (T := T) (D := D) (ea := ea) (mi := mi) (sa := sa) (om := om) (am := am) (ad := ad) (f := f) hfl hC6 hI (xs (5 * C + 1)) (xs (5 * C + 2)) (xs (5 * C + 3))
    exact lc_heat Z hR hXX hX9 hbl hbA hL3 (by omega) hw hrm hf hlen hm h31 hk ⟨by omega, by omega⟩ Mz9 hl9 (fun u1 u2 Hp9 lc9 sl9 Mz9 hl9 => zl_after Z ih hmc rfl rfl (hfin u1 u2) Mz9 hl9)
  · refine lv_tableIn (off := 588) (tgt := 627) hx hb dL_law_39 (by decide +kernel) (by decide +kernel) (by decide +kernel) (by decide) ?_
    obtain ⟨S1, S2, Wc', k, rv, σ', f', rm, mc, ms, hw, hrm, hmc, hf, hlen, hm, h31, hk, hfin⟩ := st_cool (T := T) (D := D) (ea := ea) (mi := mi) (sa := sa) (om := om) (am := am) (ad := ad) (f := f) hfl hC6 hI (xs (5 * C + 1)) (xs (5 * C + 2))
    exact lc_cool Z hR hXX hX9 hbl hbA hL3 (by omega) hw hrm hf hlen hm h31 hk ⟨by omega, by omega⟩ Mz9 hl9 (fun u1 u2 Hp9 lc9 sl9 Mz9 hl9 => zl_after Z ih hmc rfl rfl (hfin u1 u2) Mz9 hl9)
  · refine lv_tableIn (off := 656) (tgt := 695) hx hb dL_law_39 (by decide +kernel) (by decide +kernel) (by decide +kernel) (by decide) ?_
    obtain ⟨S1, S2, Wc', k, rv, σ', f', rm, mc, ms, hw, hrm, hmc, hf, hlen, hm, h31, hk, hfin⟩ := st_blow (T := T) (D := D) (ea := ea) (mi := mi) (sa := sa) (om := om) (am := am) (ad := ad) (f := f) hfl hC6 hI (xs (5 * C + 1)) (xs (5 * C + 2)) (xs (5 * C + 3)) (xs (5 * C + 4))
    exact lc_blow Z hR hXX hX9 hbl hbA hL3 (by omega) hw hrm hf hlen hm h31 hk ⟨by omega, by omega⟩ Mz9 hl9 (fun u1 u2 Hp9 lc9 sl9 Mz9 hl9 => zl_after Z ih hmc rfl rfl (hfin u1 u2) Mz9 hl9)
  · refine lv_tableIn (off := 748) (tgt := 787) hx hb dL_law_39 (by decide +kernel) (by decide +kernel) (by decide +kernel) (by decide) ?_
    obtain ⟨S1, S2, Wc', k, rv, σ', f', rm, mc, ms, hw, hrm, hmc, hf, hlen, hm, h31, hk, hfin⟩ := st_cut (T := T) (D := D) (ea := ea) (mi := mi) (sa := sa) (om := om) (am := am) (ad := ad) (f := f) hfl hC6 hI (xs (5 * C + 1)) (xs (5 * C + 2)) (xs (5 * C + 3))
    exact lc_cut Z hR hXX hX9 hbl hbA hL3 (by omega) hw hrm hf hlen hm h31 hk ⟨by omega, by omega⟩ Mz9 hl9 (fun u1 u2 Hp9 lc9 sl9 Mz9 hl9 => zl_after Z ih hmc rfl rfl (hfin u1 u2) Mz9 hl9)
  · refine lv_tableIn (off := 828) (tgt := 867) hx hb dL_law_39 (by decide +kernel) (by decide +kernel) (by decide +kernel) (by decide) ?_
    obtain ⟨S1, S2, Wc', k, rv, σ', f', rm, mc, ms, hw, hrm, hmc, hf, hlen, hm, h31, hk, hfin⟩ := st_die (T := T) (D := D) (ea := ea) (mi := mi) (sa := sa) (om := om) (am := am) (ad := ad) (f := f) hfl hC6 hI 
    exact lc_die Z hR hXX hX9 hbl hbA hL3 (by omega) hw hrm hf hlen hm h31 hk ⟨by omega, by omega⟩ Mz9 hl9 (fun u1 u2 Hp9 lc9 sl9 Mz9 hl9 => zl_after Z ih hmc rfl rfl (hfin u1 u2) Mz9 hl9)
  · refine lv_tableIn (off := 872) (tgt := 911) hx hb dL_law_39 (by decide +kernel) (by decide +kernel) (by decide +kernel) (by decide) ?_
    obtain ⟨S1, S2, Wc', k, rv, σ', f', rm, mc, ms, hw, hrm, hmc, hf, hlen, hm, h31, hk, hfin⟩ := st_shape (T := T) (D := D) (ea := ea) (mi := mi) (sa := sa) (om := om) (am := am) (ad := ad) (f := f) hfl hC6 hI (xs (5 * C + 1)) (xs (5 * C + 2)) (xs (5 * C + 3))
    exact lc_shape Z hR hXX hX9 hbl hbA hL3 (by omega) hw hrm hf hlen hm h31 hk ⟨by omega, by omega⟩ Mz9 hl9 (fun u1 u2 Hp9 lc9 sl9 Mz9 hl9 => zl_after Z ih hmc rfl rfl (hfin u1 u2) Mz9 hl9)
  · refine lv_tableIn (off := 952) (tgt := 991) hx hb dL_law_39 (by decide +kernel) (by decide +kernel) (by decide +kernel) (by decide) ?_
    obtain ⟨S1, S2, Wc', k, rv, σ', f', rm, mc, ms, hw, hrm, hmc, hf, hlen, hm, h31, hk, hfin⟩ := st_sink (T := T) (D := D) (ea := ea) (mi := mi) (sa := sa) (om := om) (am := am) (ad := ad) (f := f) hfl hC6 hI (xs (5 * C + 1))
    exact lc_sink Z hR hXX hX9 hbl hbA hL3 (by omega) hw hrm hf hlen hm h31 hk ⟨by omega, by omega⟩ Mz9 hl9 (fun u1 u2 Hp9 lc9 sl9 Mz9 hl9 => zl_after Z ih hmc rfl rfl (hfin u1 u2) Mz9 hl9)
  · refine lv_tableIn (off := 1008) (tgt := 1047) hx hb dL_law_39 (by decide +kernel) (by decide +kernel) (by decide +kernel) (by decide) ?_
    obtain ⟨S1, S2, Wc', k, rv, σ', f', rm, mc, ms, hw, hrm, hmc, hf, hlen, hm, h31, hk, hfin⟩ := st_press (T := T) (D := D) (ea := ea) (mi := mi) (sa := sa) (om := om) (am := am) (ad := ad) (f := f) hfl hC6 hI (xs (5 * C + 1)) (xs (5 * C + 2)) (xs (5 * C + 3))
    exact lc_press Z hR hXX hX9 hbl hbA hL3 (by omega) hw hrm hf hlen hm h31 hk ⟨by omega, by omega⟩ Mz9 hl9 (fun u1 u2 Hp9 lc9 sl9 Mz9 hl9 => zl_after Z ih hmc rfl rfl (hfin u1 u2) Mz9 hl9)
  · refine lv_tableIn (off := 1088) (tgt := 1127) hx hb dL_law_39 (by decide +kernel) (by decide +kernel) (by decide +kernel) (by decide) ?_
    obtain ⟨S1, S2, Wc', k, rv, σ', f', rm, mc, ms, hw, hrm, hmc, hf, hlen, hm, h31, hk, hfin⟩ := st_quench (T := T) (D := D) (ea := ea) (mi := mi) (sa := sa) (om := om) (am := am) (ad := ad) (f := f) hfl hC6 hI (xs (5 * C + 1)) (xs (5 * C + 2))
    exact lc_quench Z hR hXX hX9 hbl hbA hL3 (by omega) hw hrm hf hlen hm h31 hk ⟨by omega, by omega⟩ Mz9 hl9 (fun u1 u2 Hp9 lc9 sl9 Mz9 hl9 => zl_after Z ih hmc rfl rfl (hfin u1 u2) Mz9 hl9)
  · refine lv_tableIn (off := 1156) (tgt := 1195) hx hb dL_law_39 (by decide +kernel) (by decide +kernel) (by decide +kernel) (by decide) ?_
    obtain ⟨S1, S2, Wc', k, rv, σ', f', rm, mc, ms, hw, hrm, hmc, hf, hlen, hm, h31, hk, hfin⟩ := st_temper (T := T) (D := D) (ea := ea) (mi := mi) (sa := sa) (om := om) (am := am) (ad := ad) (f := f) hfl hC6 hI (xs (5 * C + 1)) (xs (5 * C + 2))
    exact lc_temper Z hR hXX hX9 hbl hbA hL3 (by omega) hw hrm hf hlen hm h31 hk ⟨by omega, by omega⟩ Mz9 hl9 (fun u1 u2 Hp9 lc9 sl9 Mz9 hl9 => zl_after Z ih hmc rfl rfl (hfin u1 u2) Mz9 hl9)
  · refine lv_tableIn (off := 1224) (tgt := 1263) hx hb dL_law_39 (by decide +kernel) (by decide +kernel) (by decide +kernel) (by decide) ?_
    obtain ⟨S1, S2, Wc', k, rv, σ', f', rm, mc, ms, hw, hrm, hmc, hf, hlen, hm, h31, hk, hfin⟩ := st_hardness (T := T) (D := D) (ea := ea) (mi := mi) (sa := sa) (om := om) (am := am) (ad := ad) (f := f) hfl hC6 hI (xs (5 * C + 1)) (xs (5 * C + 2))
    exact lc_hardness Z hR hXX hX9 hbl hbA hL3 (by omega) hw hrm hf hlen hm h31 hk ⟨by omega, by omega⟩ Mz9 hl9 (fun u1 u2 Hp9 lc9 sl9 Mz9 hl9 => zl_after Z ih hmc rfl rfl (hfin u1 u2) Mz9 hl9)
  · refine lv_tableIn (off := 1292) (tgt := 1331) hx hb dL_law_39 (by decide +kernel) (by decide +kernel) (by decide +kernel) (by decide) ?_
    obtain ⟨S1, S2, Wc', k, rv, σ', f', rm, mc, ms, hw, hrm, hmc, hf, hlen, hm, h31, hk, hfin⟩ := st_test (T := T) (D := D) (ea := ea) (mi := mi) (sa := sa) (om := om) (am := am) (ad := ad) (f := f) hfl hC6 hI (xs (5 * C + 1))
    exact lc_test Z hR hXX hX9 hbl hbA hL3 (by omega) hw hrm hf hlen hm h31 hk ⟨by omega, by omega⟩ Mz9 hl9 (fun u1 u2 Hp9 lc9 sl9 Mz9 hl9 => zl_after Z ih hmc rfl rfl (hfin u1 u2) Mz9 hl9)
  · refine lv_tableIn (off := 1348) (tgt := 1387) hx hb dL_law_39 (by decide +kernel) (by decide +kernel) (by decide +kernel) (by decide) ?_
    obtain ⟨S1, S2, Wc', k, rv, σ', f', rm, mc, ms, hw, hrm, hmc, hf, hlen, hm, h31, hk, hfin⟩ := st_paper (T := T) (D := D) (ea := ea) (mi := mi) (sa := sa) (om := om) (am := am) (ad := ad) (f := f) hfl hC6 hI (xs (5 * C + 1)) (xs (5 * C + 2))
    exact lc_paper Z hR hXX hX9 hbl hbA hL3 (by omega) hw hrm hf hlen hm h31 hk ⟨by omega, by omega⟩ Mz9 hl9 (fun u1 u2 Hp9 lc9 sl9 Mz9 hl9 => zl_after Z ih hmc rfl rfl (hfin u1 u2) Mz9 hl9)
  · refine lv_tableIn (off := 1416) (tgt := 1455) hx hb dL_law_39 (by decide +kernel) (by decide +kernel) (by decide +kernel) (by decide) ?_
    obtain ⟨S1, S2, Wc', k, rv, σ', f', rm, mc, ms, hw, hrm, hmc, hf, hlen, hm, h31, hk, hfin⟩ := st_layer (T := T) (D := D) (ea := ea) (mi := mi) (sa := sa) (om := om) (am := am) (ad := ad) (f := f) hfl hC6 hI (xs (5 * C + 1)) (xs (5 * C + 2))
    exact lc_layer Z hR hXX hX9 hbl hbA hL3 (by omega) hw hrm hf hlen hm h31 hk ⟨by omega, by omega⟩ Mz9 hl9 (fun u1 u2 Hp9 lc9 sl9 Mz9 hl9 => zl_after Z ih hmc rfl rfl (hfin u1 u2) Mz9 hl9)
  · refine lv_tableIn (off := 1484) (tgt := 1523) hx hb dL_law_39 (by decide +kernel) (by decide +kernel) (by decide +kernel) (by decide) ?_
    obtain ⟨S1, S2, Wc', k, rv, σ', f', rm, mc, ms, hw, hrm, hmc, hf, hlen, hm, h31, hk, hfin⟩ := st_fewest (T := T) (D := D) (ea := ea) (mi := mi) (sa := sa) (om := om) (am := am) (ad := ad) (f := f) hfl hC6 hI (xs (5 * C + 1)) (xs (5 * C + 2))
    exact lc_fewest Z hR hXX hX9 hbl hbA hL3 (by omega) hw hrm hf hlen hm h31 hk ⟨by omega, by omega⟩ Mz9 hl9 (fun u1 u2 Hp9 lc9 sl9 Mz9 hl9 => zl_after Z ih hmc rfl rfl (hfin u1 u2) Mz9 hl9)
  · refine lv_tableIn (off := 1552) (tgt := 1591) hx hb dL_law_39 (by decide +kernel) (by decide +kernel) (by decide +kernel) (by decide) ?_
    obtain ⟨S1, S2, Wc', k, rv, σ', f', rm, mc, ms, hw, hrm, hmc, hf, hlen, hm, h31, hk, hfin⟩ := st_first (T := T) (D := D) (ea := ea) (mi := mi) (sa := sa) (om := om) (am := am) (ad := ad) (f := f) OPok_all hfl hC6 hI (xs (5 * C + 1)) (xs (5 * C + 2))
    exact lc_first Z hR hXX hX9 hbl hbA hL3 (by omega) hw hrm hf hlen hm h31 hk ⟨by omega, by omega⟩ Mz9 hl9 (fun u1 u2 Hp9 lc9 sl9 Mz9 hl9 => zl_after Z ih hmc rfl rfl (hfin u1 u2) Mz9 hl9)
  · refine lv_tableIn (off := 1620) (tgt := 1659) hx hb dL_law_39 (by decide +kernel) (by decide +kernel) (by decide +kernel) (by decide) ?_
    obtain ⟨S1, S2, Wc', k, rv, σ', f', rm, mc, ms, hw, hrm, hmc, hf, hlen, hm, h31, hk, hfin⟩ := st_job (T := T) (D := D) (ea := ea) (mi := mi) (sa := sa) (om := om) (am := am) (ad := ad) (f := f) hfl hC6 hI (xs (5 * C + 1))
    exact lc_job Z hR hXX hX9 hbl hbA hL3 (by omega) hw hrm hf hlen hm h31 hk ⟨by omega, by omega⟩ Mz9 hl9 (fun u1 u2 Hp9 lc9 sl9 Mz9 hl9 => zl_after Z ih hmc rfl rfl (hfin u1 u2) Mz9 hl9)
  · refine lv_tableIn (off := 1676) (tgt := 1715) hx hb dL_law_39 (by decide +kernel) (by decide +kernel) (by decide +kernel) (by decide) ?_
    obtain ⟨S1, S2, Wc', k, rv, σ', f', rm, mc, ms, hw, hrm, hmc, hf, hlen, hm, h31, hk, hfin⟩ := st_planned (T := T) (D := D) (ea := ea) (mi := mi) (sa := sa) (om := om) (am := am) (ad := ad) (f := f) hfl hC6 hI (xs (5 * C + 1))
    exact lc_planned Z hR hXX hX9 hbl hbA hL3 (by omega) hw hrm hf hlen hm h31 hk ⟨by omega, by omega⟩ Mz9 hl9 (fun u1 u2 Hp9 lc9 sl9 Mz9 hl9 => zl_after Z ih hmc rfl rfl (hfin u1 u2) Mz9 hl9)
  · refine lv_tableIn (off := 1732) (tgt := 1771) hx hb dL_law_39 (by decide +kernel) (by decide +kernel) (by decide +kernel) (by decide) ?_
    obtain ⟨k, σ', rm, N', ρ', hw, hrm, hm, hI2⟩ := st_run (l := l) (T := T) (D := D) (ea := ea) (mi := mi) (sa := sa) (om := om) (am := am) (ad := ad) (f := f) hC6 hI
    refine lc_run (S1 := Unit) (S2 := Unit) (σ' := fun _ => σ') (q0 := (mW om am T σ).length + (1 + J.idxOf 0)) Z hR hXX hX9 hbl hbA hL3 (by omega) hw (zl_at0 hI) hrm (fun _ j _ => ?_) (fun _ => ?_) (zI_M hm) rfl ⟨by omega, by omega⟩ Mz9 hl9 (fun _ _ Hp9 lc9 sl9 Mz9 hl9 => ?_)
    · unfold iw
      rw [List.map_cons, List.map_cons, List.map_map, List.map_map]
      rfl
    · unfold iw
      rw [List.length_cons, List.length_cons, List.length_map, List.length_map]
      exact Nat.le_refl _
    · exact zl_after Z ih ⟨by decide, by decide⟩ rfl rfl ⟨ad, J, N', mst, bst, ρ', rfl, rfl, ⟨[], by rw [List.append_nil]⟩, hI2⟩ Mz9 hl9
/-- from the loop's head to the law's end -/
theorem zl_loop (Z : zC p s m args c cL_law 7 RL lw_tbl D T A) (hfl : l.stackTraces = false) (hR : 11 ≤ R.frames ∧ 404 ≤ R.locals) (hXX : zX ea mi sa A s s.heap) (hX9 : va_X b L xs s s.heap) (hbl : b < s.heap.size) (hbA : ¬ A b) (hL2 : L ≤ 2560) (hRc : c0 + 2560 ≤ R.cells ∧ s0 + 35840 ≤ R.slots)
    (hex : ∀ (ws : va_W) (Hp9 : Heap) (lc9 : List Loc) (sl9 : Array Slot), zM D A s.heap ws Hp9 lc9 → W p l e R s m args below meth c Hp9 lc9 (c0 + 2560) (s0 + 35840) Q (F0 m 1790 sl9 [])) : ∀ (n C : Nat), C + n = L / 5 → zl_At p l e R s m args below meth c Q D T A ea b o om out c0 s0 am C := by
  have hx := Z.1.1
  have hb := Z.1.2.1
  have hL3 : L < 2 ^ 31 := Nat.lt_of_le_of_lt hL2 (by decide)
  intro n
  induction n with
  | zero =>
    intro C hn ad J N mst bst ρ σ f Hp9 lc9 sl9 h16 h0 hI Mz9 hl9
    refine lv_iload hx hb dL_law_23 (lv_at hl9 0 rfl) ?_
    refine lv_aload_n hx hb dL_law_25 rfl (lv_at hl9 1 rfl) ?_
    refine va_slen hx hb hX9 hbl hbA Mz9.2.2 dL_law_26 ?_
    refine lv_iconst (v := 5) hx hb dL_law_27 (by decide) ?_
    refine lv_isub hx hb dL_law_28 ?_
    refine lv_icmp_gt (tgt := 1790) hx hb dL_law_29 (by decide) (fun _ => ?_) (fun h => absurd ((zl_lim5 hL3 (show 5 * C < 2 ^ 31 by omega)).mpr (show L < 5 * C + 5 by omega)) h)
    exact W.widen (k := c0 + 2560) (n := s0 + 35840) (by omega) (by omega) (hex _ _ _ _ Mz9)
  | succ n ih =>
    intro C hn ad J N mst bst ρ σ f Hp9 lc9 sl9 h16 h0 hI Mz9 hl9
    refine lv_iload hx hb dL_law_23 (lv_at hl9 0 rfl) ?_
    refine lv_aload_n hx hb dL_law_25 rfl (lv_at hl9 1 rfl) ?_
    refine va_slen hx hb hX9 hbl hbA Mz9.2.2 dL_law_26 ?_
    refine lv_iconst (v := 5) hx hb dL_law_27 (by decide) ?_
    refine lv_isub hx hb dL_law_28 ?_
    refine lv_icmp_gt (tgt := 1790) hx hb dL_law_29 (by decide) (fun h => absurd ((zl_lim5 hL3 (show 5 * C < 2 ^ 31 by omega)).mp h) (show ¬ L < 5 * C + 5 by omega)) (fun _ => ?_)
    exact zl_step Z hfl hR hXX hX9 hbl hbA hL2 (by omega) ⟨by omega, by omega⟩ (ih (C + 1) (by omega)) h16 h0 hI Mz9 hl9
end LOOP
