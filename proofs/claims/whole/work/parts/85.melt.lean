/-! ===== steps: a new melt ===== -/
theorem cpy_liF (ad ix : Nat → Nat) (g : Nat) : va_cpy (liF ad ix g) (fun _ => none) 0 0 g = liF ad ix g := by
  funext k
  unfold va_cpy
  by_cases c : k < g
  · rw [if_pos ⟨Nat.zero_le _, by omega⟩, Nat.zero_add, Nat.sub_zero]
  · rw [if_neg (by omega)]
    unfold liF
    rw [if_neg c]
theorem perm_swap {J K : List Nat} {ad ad' : Nat → Nat} {G G9 : Nat → va_E} {tl : va_W} {a : Nat} (hJ : J.Nodup) (ha : a ∈ J) (hA : ∀ j ∈ J, j ≠ a → ad' j = ad j ∧ G9 j = G j) (htl : List.Perm tl (iw K ad' G9 ++ [(ad' a, G9 a)])) : ∃ gb : va_W, List.Perm (iw J ad G ++ tl) (iw (J ++ K) ad' G9 ++ gb) := by
  refine ⟨[(ad a, G a)], ?_⟩
  have p0 : List.Perm J (a :: J.erase a) := List.perm_cons_erase ha
  have hne : ∀ j ∈ J.erase a, j ∈ J ∧ j ≠ a := fun j hj => ⟨List.mem_of_mem_erase hj, fun e => by subst e; exact absurd hj (hJ.not_mem_erase)⟩
  have e : iw (J.erase a) ad G = iw (J.erase a) ad' G9 := by
    unfold iw
    exact List.map_congr_left (fun j hj => by rw [(hA j (hne j hj).1 (hne j hj).2).1, (hA j (hne j hj).1 (hne j hj).2).2])
  have p1 : List.Perm (iw J ad G) ((ad a, G a) :: iw (J.erase a) ad' G9) := by
    rw [← e]
    exact p0.map _
  have p2 : List.Perm (iw (J ++ K) ad' G9) ((ad' a, G9 a) :: (iw (J.erase a) ad' G9 ++ iw K ad' G9)) := by
    unfold iw
    rw [List.map_append, ← List.cons_append]
    exact List.Perm.append_right _ (p0.map _)
  have p3 : List.Perm (iw J ad G ++ tl) ((ad a, G a) :: (iw (J.erase a) ad' G9 ++ (iw K ad' G9 ++ [(ad' a, G9 a)]))) := by
    rw [← List.cons_append]
    exact List.Perm.append p1 htl
  have p4 : List.Perm ((ad a, G a) :: (iw (J.erase a) ad' G9 ++ (iw K ad' G9 ++ [(ad' a, G9 a)]))) (iw (J ++ K) ad' G9 ++ [(ad a, G a)]) := by
    refine List.Perm.trans ?_ (List.perm_append_comm (l₁ := [(ad a, G a)]))
    refine List.Perm.cons _ ?_
    refine List.Perm.trans ?_ p2.symm
    rw [← List.append_assoc]
    exact List.perm_append_comm (l₂ := [(ad' a, G9 a)])
  exact p3.trans p4
section MELT
variable {l : Launch} {D : va_G} {T : Nat → ClassId} {ea mi : Nat} {sa : Nat → Nat} {om : Nat} {am : Nat → Nat}
variable {C : Nat} {ad : Nat → Nat} {J : List Nat} {N mst bst : Nat → Nat} {ρ σ : Nat → Nat → Int32} {f : Nat → Int64}

def Nm (N : Nat → Nat) : Nat → Nat := fun q => if q = 0 then N 0 + 1 else N q
def mM (N mst : Nat → Nat) (j : Nat) : Nat → Nat := fun m => if m = N 0 then j else mst m
theorem mM_n {j : Nat} : mM N mst j (N 0) = j := if_pos rfl
theorem mM_o {j m : Nat} (h : m ≠ N 0) : mM N mst j m = mst m := if_neg h
def rM (ρ : Nat → Nat → Int32) : Nat → Nat → Int32 := fun k => if k = 6 then (fun _ => ρ 6 0 + 1) else ρ k
theorem rM_6 : rM ρ 6 = fun _ => ρ 6 0 + 1 := if_pos rfl
theorem rM_o {k : Nat} (h : k ≠ 6) : rM ρ k = ρ k := if_neg h
def aM (ad : Nat → Nat) (z : Nat) : Nat → Nat := fun k => if k = 20 then z else ad k
theorem aM_20 {z : Nat} : aM ad z 20 = z := if_pos rfl
theorem aM_o {z k : Nat} (h : k ≠ 20) : aM ad z k = ad k := if_neg h
theorem aM_s {k : Nat} : aM ad (ad 20) k = ad k := by
  by_cases e : k = 20
  · rw [e, aM_20]
  · exact aM_o e
theorem Nm_liv {j : Nat} : liv (Nm N) j ↔ (j < 16 ∨ j = 20 ∨ (j = 21 ∧ 0 < N 1) ∨ (j = 22 ∧ 0 < N 2) ∨ (100 ≤ j ∧ j < 100 + 3 * N 1) ∨ (200 ≤ j ∧ j < 200 + 2 * N 2)) := by
  unfold liv
  rw [show Nm N 0 = N 0 + 1 from rfl, show Nm N 1 = N 1 from rfl, show Nm N 2 = N 2 from rfl]
  omega
theorem melt_inv {J' : List Nat} {j : Nat} (hj : j < 4) (hI : Inv C J N mst bst ρ σ) (h4 : N 0 < 20) (hJ' : J'.Nodup) (hm' : ∀ j, j ∈ J' ↔ liv (Nm N) j) : Inv (C + 1) J' (Nm N) (mM N mst j) bst (rM ρ) (upS (upS (upS σ 3 (fun _ => nI (N 0 + 1))) 4 (upd (σ 4) (N 0) (nI j))) 31 (fun _ => 0)) := by
  obtain ⟨σ', hσ⟩ : ∃ q, q = upS (upS (upS σ 3 (fun _ => nI (N 0 + 1))) 4 (upd (σ 4) (N 0) (nI j))) 31 (fun _ => 0) := ⟨_, rfl⟩
  have s3 : σ' 3 0 = nI (N 0 + 1) := by rw [hσ]; rfl
  have s4 : σ' 4 = upd (σ 4) (N 0) (nI j) := by rw [hσ]; rfl
  have hs : ∀ k, k < 29 → k ≠ 3 → k ≠ 4 → σ' k = σ k := fun k h1 h2 h3 => by
    rw [hσ]
    exact (upS_ne _ _ (show k ≠ 31 by omega)).trans ((upS_ne _ _ h3).trans (upS_ne _ _ h2))
  rw [← hσ]
  obtain ⟨h1, h2, h3, h4', h5, h6, h7, h8⟩ := hI
  obtain ⟨-, -, c3, c4, c5, c6, c7, c8⟩ := h1
  have hr : ∀ k, k ≠ 6 → rM ρ k = ρ k := fun k hk => rM_o hk
  refine ⟨⟨hJ', hm', h4, c4, c5, s3, ?_, ?_⟩, ?_, fun m hm => ?_, ?_, ?_, fun d hd => ?_, ?_, fun i hi => ?_⟩
  · rw [hs 5 (by decide) (by decide) (by decide)]
    exact c7
  · rw [hs 21 (by decide) (by decide) (by decide)]
    exact c8
  · unfold SIv at h2 ⊢
    rw [hs 0 (by decide) (by decide) (by decide), hs 1 (by decide) (by decide) (by decide), hs 2 (by decide) (by decide) (by decide)]
    exact fun s hs9 => by rw [hr (2 + s) (by omega)]; exact h2 s hs9
  · rw [s4]
    by_cases e : m = N 0
    · rw [e, mM_n, upd_same]
      exact ⟨hj, rfl⟩
    · rw [mM_o e, upd_ne _ _ e]
      have hm9 : m < N 0 + 1 := hm
      exact h3 m (by omega)
  · unfold LIv at h4' ⊢
    rw [hs 24 (by decide) (by decide) (by decide), hs 25 (by decide) (by decide) (by decide), hr 0 (by omega), hr 9 (by omega)]
    exact h4'
  · unfold ZIv at h5 ⊢
    rw [hs 12 (by decide) (by decide) (by decide), hs 13 (by decide) (by decide) (by decide), hs 14 (by decide) (by decide) (by decide), hs 17 (by decide) (by decide) (by decide), hs 18 (by decide) (by decide) (by decide), hs 20 (by decide) (by decide) (by decide), hs 8 (by decide) (by decide) (by decide)]
    exact h5
  · rw [hr (200 + 2 * d) (by omega), hr (201 + 2 * d) (by omega), hs 22 (by decide) (by decide) (by decide), hs 23 (by decide) (by decide) (by decide)]
    exact h6 d hd
  · unfold JIv at h7 ⊢
    rw [hs 26 (by decide) (by decide) (by decide), hs 27 (by decide) (by decide) (by decide), hs 28 (by decide) (by decide) (by decide), hr 14 (by omega), hr 15 (by omega)]
    exact h7
  · rw [hr (100 + 3 * i) (by omega), hr (101 + 3 * i) (by omega), hr (102 + 3 * i) (by omega)]
    exact BIv_N (Nat.le_succ _) (fun m hm => mM_o (by omega)) (Nat.le_refl _) (BIv_sig (BIv_le (Nat.le_succ C) (h8 i hi)) (fun k hk => by rw [hs k (by omega) (by omega) (by omega)]) (fun k j hk hj => by rw [hs k (by omega) (by omega) (by omega)]))
theorem st_melt (hfl : l.stackTraces = false) (hC : C ≤ 600) (hI : Inv C J N mst bst ρ σ) (x : Int32) : StepR l D T ea mi sa yL_melt wsL_melt 4 [.ref (ad 0), .int x, .ref (ad 16)] yX6_melt wsX6_melt (zrm 1 23) [.ref om, .int x] (fun r => r.toInt64) om am C ad J N mst bst ρ σ f := by
  have hJ := hI.1.1
  have hmm := hI.1.2.1
  have hn0 := hI.1.2.2.1
  have hn1 := hI.1.2.2.2.1
  have hn2 := hI.1.2.2.2.2.1
  have h3 := hI.1.2.2.2.2.2.1
  have hb4 : ∀ i, i < N 1 → bst i = bst i ∧ bst i < 4 := fun i hi => ⟨rfl, bst4 hI hi⟩
  have hm4 : ∀ i, i < N 0 → mst i < 4 := fun i hi => (hI.2.2.1 i hi).1
  rcases bin_01 x 0 3 with hb | hb
  · have hv : x < 0 ∨ (4 : Int32) ≤ x := bin_n0 (v := x) (n := 4) (by decide) hb
    have hg : gth (bin x 0 3) (if σ 3 0 < 20 then 1 else 0) 1 = 1 := by rw [hb]; rfl
    have hm := cm_melt_bad l D T om am σ x (by rw [hg]; decide)
    rw [hg] at hm
    exact badJ (js := [0]) hI (by decide) (fun j hj => by simp only [List.mem_cons, List.not_mem_nil, or_false] at hj; unfold liv; omega) rfl (lk_melt_1 l D T ea mi sa _ (ad 16) f x (ch_melt_b l hfl D T ea mi sa (ad 0) ad (ρ 0 0) x hv) ⟨rfl, rfl⟩) ⟨rfl, rfl, by decide, by decide⟩ (by decide) hm
  · obtain ⟨j, hj, rfl⟩ : ∃ j, j < 4 ∧ x = nI j := bin_n1 (v := x) (n := 4) (by decide) hb
    by_cases h4 : N 0 < 20
    · have hm := cm_melt_ok l D T om am σ j (N 0) hj h4 h3 hb
      have g9 : ∀ (z : Nat) (f' : Nat → Int64) (k : Nat), liv N k → k ≠ 6 → k ≠ 20 → hG (aM ad z) T ea f' (Nm N) (mM N mst j) bst (rM ρ) k = hG ad T ea f N mst bst ρ k := fun z f' k hl h6 h20 => hG_new hl (fun k hk => aM_o (by omega)) (fun k k1 k2 => aM_o (by omega)) (fun k k1 k2 => aM_o (by omega)) hb4 hn1 hn2 (rM_o h6) (fun h => absurd h (by omega)) (fun _ => ⟨rfl, aM_o (by omega)⟩) (fun _ => ⟨rfl, aM_o (by omega)⟩)
      have r6 : ∀ (z : Nat) (f' : Nat → Int64), hG (aM ad z) T ea f' (Nm N) (mM N mst j) bst (rM ρ) 6 = .inr (0, [.int (ρ 6 0 + 1), .ref z, .int (nI (N 0 + 1))]) := fun z f' => by
        rw [hG_6 (show 0 < Nm N 0 from Nat.succ_pos _), aM_20, rM_6, show Nm N 0 = N 0 + 1 from rfl]
      have r20 : ∀ (z : Nat) (f' : Nat → Int64), hG (aM ad z) T ea f' (Nm N) (mM N mst j) bst (rM ρ) 20 = .inl (T 3, cap (N 0 + 1), qa (va_up (liF ad (fun i => 2 + mst i) (N 0)) (N 0) (some (ad (2 + j))))) := fun z f' => by
        rw [liF_up (ad' := aM ad z) (ix' := fun i => 2 + mM N mst j i) (a := ad (2 + j)) (fun i hi => by rw [mM_o (by omega)]; exact aM_o (by have := hm4 i hi; omega)) (by rw [mM_n]; exact aM_o (by omega))]
        rfl
      have g5 : ∀ (z : Nat) (f' : Nat → Int64), hG (aM ad z) T ea f' (Nm N) (mM N mst j) bst (rM ρ) (2 + j) = .inr (5, [.int (ρ (2 + j) 0), .int (ρ (2 + j) 1), .int (ρ (2 + j) 2)]) := fun z f' => by
        rw [hG_s hj, rM_o (by omega)]
      by_cases h0 : N 0 = 0
      · have hw := lk_melt l D T ea mi sa _ (ad 16) f (nI j) (ch_melt_e l D T ea mi sa (ad 0) ad (ρ 0 0) (stf ad) (ad (2 + j)) j (ρ (2 + j)) hj (stf_at ad hj) (ρ 6 0)) ⟨rfl, rfl⟩ (fun u k hk => List.getElem?_append_left (l₁ := [ad 0, ad 1, ad 6, ad (2 + j)]) (l₂ := [u]) hk) (fun _ => Nat.le_of_ble_eq_true rfl)
        have e1 : iw [0, 1, 6, 2 + j] ad (hG ad T ea f N mst bst ρ) = [(ad 0, .inr (6, hsF ad (ρ 0 0))), (ad 1, .inl (T 4, 4, qa (stf ad))), (ad 6, .inr (0, [.int (ρ 6 0), .ref ea, .int 0])), (ad (2 + j), .inr (5, [.int (ρ (2 + j) 0), .int (ρ (2 + j) 1), .int (ρ (2 + j) 2)]))] := by
          rw [iw_cons, iw_cons, iw_cons, iw_cons, iw_nil, hG_s hj]
          show [(ad 0, (Sum.inr (6, hsF ad (ρ 0 0)) : va_E)), (ad 1, .inl (T 4, 4, qa (stf ad))), (ad 6, Sum.inr (0, [Value.int (ρ 6 0), Value.ref (if N 0 = 0 then ea else ad 20), Value.int (nI (N 0))])), _] = _
          rw [if_pos h0, h0, nI_0]
        have e2 : ∀ (u : Nat) (f' : Nat → Int64), [(ad 0, (Sum.inr (6, hsF ad (ρ 0 0)) : va_E)), (ad 1, .inl (T 4, 4, qa (stf ad))), (ad 6, .inr (0, [.int (ρ 6 0 + 1), .ref u, .int 1])), (ad (2 + j), .inr (5, [.int (ρ (2 + j) 0), .int (ρ (2 + j) 1), .int (ρ (2 + j) 2)])), (u, .inl (T 3, 10, qa (va_up (fun _ => none) 0 (some (ad (2 + j))))))] = iw [0, 1, 6, 2 + j] ad (hG (aM ad u) T ea f' (Nm N) (mM N mst j) bst (rM ρ)) ++ iw [20] (aM ad u) (hG (aM ad u) T ea f' (Nm N) (mM N mst j) bst (rM ρ)) := fun u f' => by
          have e0 : (fun _ => none : Nat → Option Nat) = liF ad (fun i => 2 + mst i) (N 0) := by
            funext i
            rw [h0]
            exact (if_neg (Nat.not_lt_zero i)).symm
          rw [iw_cons, iw_cons, iw_cons, iw_cons, iw_nil, iw_cons, iw_nil, g9 u f' 0 (Or.inl (by decide)) (by decide) (by decide), g9 u f' 1 (Or.inl (by decide)) (by decide) (by decide), r6, r20, g5, aM_20, e0, h0]
          rfl
        rw [← e1] at hw
        refine step_b (rm := lkR (zrmc 5 151 1 10) 4 1 10) (mc := 1) (ms := 10) (S1 := Nat) (S2 := Unit) (js := [0, 1, 6, 2 + j]) (G' := fun u => hG (aM ad u) T ea (vp_updL f (0 : Int32).toNatClampNeg (0 : Int32).toInt64) (Nm N) (mM N mst j) bst (rM ρ)) (tl := fun u => iw [20] (aM ad u) (hG (aM ad u) T ea (vp_updL f (0 : Int32).toNatClampNeg (0 : Int32).toInt64) (Nm N) (mM N mst j) bst (rM ρ))) hI ?_ (fun k hk => by simp only [List.mem_cons, List.not_mem_nil, or_false] at hk; unfold liv; omega) ?_ ⟨rfl, rfl, by decide, by decide⟩ ⟨by decide, by decide⟩ (fun _ => rfl) (fun u k hk hn => g9 u _ k ((hmm k).mp hk) (fun e => hn (by rw [e]; simp)) (fun e => by have := (hmm k).mp hk; unfold liv at this; omega)) (zI_M hm) (fun _ => rfl) (fun _ => (vpL _ _).trans (by rw [h0, nI_0])) (fun u _ => ⟨aM ad u, J ++ [20], Nm N, mM N mst j, bst, rM ρ, aM_o (by omega), aM_o (by omega), perm_new (fun k hk => aM_o (fun e => by have := (hmm k).mp hk; unfold liv at this; omega)) (List.Perm.refl _), melt_inv hj hI h4 ?_ (fun k => ?_)⟩)
        · simp only [List.nodup_cons, List.mem_cons, List.not_mem_nil, or_false, List.nodup_nil, and_true, not_false_eq_true]
          omega
        · have e4 : (fun u : Nat => ouW (ad 16) T (vp_updL f (0 : Int32).toNatClampNeg (0 : Int32).toInt64) :: (iw [0, 1, 6, 2 + j] ad (hG (aM ad u) T ea (vp_updL f (0 : Int32).toNatClampNeg (0 : Int32).toInt64) (Nm N) (mM N mst j) bst (rM ρ)) ++ iw [20] (aM ad u) (hG (aM ad u) T ea (vp_updL f (0 : Int32).toNatClampNeg (0 : Int32).toInt64) (Nm N) (mM N mst j) bst (rM ρ)))) = fun u => (ad 16, .inl (T 2, 1, .inr (.inl (vp_updL f (0 : Int32).toNatClampNeg (0 : Int32).toInt64)))) :: [(ad 0, (Sum.inr (6, hsF ad (ρ 0 0)) : va_E)), (ad 1, .inl (T 4, 4, qa (stf ad))), (ad 6, .inr (0, [.int (ρ 6 0 + 1), .ref u, .int 1])), (ad (2 + j), .inr (5, [.int (ρ (2 + j) 0), .int (ρ (2 + j) 1), .int (ρ (2 + j) 2)])), (u, .inl (T 3, 10, qa (va_up (fun _ => none) 0 (some (ad (2 + j))))))] := funext (fun u => by rw [e2 u (vp_updL f (0 : Int32).toNatClampNeg (0 : Int32).toInt64)])
          rw [e4]
          exact hw
        · refine List.nodup_append.mpr ⟨hJ, (by simp), fun a ha b hb e => ?_⟩
          have hl := (hmm a).mp ha
          simp only [List.mem_cons, List.not_mem_nil, or_false] at hb
          unfold liv at hl
          omega
        · rw [List.mem_append, Nm_liv, hmm k]
          simp only [List.mem_cons, List.not_mem_nil, or_false]
          unfold liv
          omega
      · have hp : 0 < N 0 := Nat.pos_of_ne_zero h0
        have hc9 := cap_le (g := N 0) (by omega)
        have hJm : ∀ k, k ∈ J ↔ liv (Nm N) k := fun k => by
          rw [Nm_liv, hmm k]
          unfold liv
          omega
        by_cases hcp : N 0 < cap (N 0)
        · have hw := lk_melt l D T ea mi sa _ (ad 16) f (nI j) (ch_melt_r l D T ea mi sa (ad 0) ad (ρ 0 0) (stf ad) (ad (2 + j)) j (ρ (2 + j)) hj (stf_at ad hj) (ρ 6 0) (ad 20) (cap (N 0)) (N 0) (liF ad (fun i => 2 + mst i) (N 0)) h4 hcp hc9.2) ⟨rfl, rfl⟩ (fun _ _ _ => rfl) (fun _ => Nat.le_refl _)
          have e1 : iw [0, 1, 6, 20, 2 + j] ad (hG ad T ea f N mst bst ρ) = [(ad 0, .inr (6, hsF ad (ρ 0 0))), (ad 1, .inl (T 4, 4, qa (stf ad))), (ad 6, .inr (0, [.int (ρ 6 0), .ref (ad 20), .int (nI (N 0))])), (ad 20, .inl (T 3, cap (N 0), qa (liF ad (fun i => 2 + mst i) (N 0)))), (ad (2 + j), .inr (5, [.int (ρ (2 + j) 0), .int (ρ (2 + j) 1), .int (ρ (2 + j) 2)]))] := by
            rw [iw_cons, iw_cons, iw_cons, iw_cons, iw_cons, iw_nil, hG_s hj, hG_6 hp]
            rfl
          have e2 : ∀ (f' : Nat → Int64), [(ad 0, (Sum.inr (6, hsF ad (ρ 0 0)) : va_E)), (ad 1, .inl (T 4, 4, qa (stf ad))), (ad 6, .inr (0, [.int (ρ 6 0 + 1), .ref (ad 20), .int (nI (N 0 + 1))])), (ad 20, .inl (T 3, cap (N 0), qa (va_up (liF ad (fun i => 2 + mst i) (N 0)) (N 0) (some (ad (2 + j)))))), (ad (2 + j), .inr (5, [.int (ρ (2 + j) 0), .int (ρ (2 + j) 1), .int (ρ (2 + j) 2)]))] = iw [0, 1, 6, 20, 2 + j] ad (hG (aM ad (ad 20)) T ea f' (Nm N) (mM N mst j) bst (rM ρ)) ++ [] := fun f' => by
            rw [iw_cons, iw_cons, iw_cons, iw_cons, iw_cons, iw_nil, g9 _ f' 0 (Or.inl (by decide)) (by decide) (by decide), g9 _ f' 1 (Or.inl (by decide)) (by decide) (by decide), r6, r20, g5, cap_succ hcp]
            rfl
          rw [← e1] at hw
          refine step_b (rm := lkR (zrm 2 44) 4 0 0) (mc := 0) (ms := 0) (S1 := Unit) (S2 := Unit) (js := [0, 1, 6, 20, 2 + j]) (G' := fun _ => hG (aM ad (ad 20)) T ea (vp_updL f (0 : Int32).toNatClampNeg (nI (N 0)).toInt64) (Nm N) (mM N mst j) bst (rM ρ)) (tl := fun _ => []) hI ?_ (fun k hk => by simp only [List.mem_cons, List.not_mem_nil, or_false] at hk; unfold liv; omega) ?_ ⟨rfl, rfl, by decide, by decide⟩ ⟨by decide, by decide⟩ (fun _ => rfl) (fun u k hk hn => g9 _ _ k ((hmm k).mp hk) (fun e => hn (by rw [e]; simp)) (fun e => hn (by rw [e]; simp))) (zI_M hm) (fun _ => rfl) (fun _ => vpL _ _) (fun u _ => ⟨aM ad (ad 20), J, Nm N, mM N mst j, bst, rM ρ, aM_o (by omega), aM_o (by omega), ⟨[], ?_⟩, melt_inv hj hI h4 hJ hJm⟩)
          · simp only [List.nodup_cons, List.mem_cons, List.not_mem_nil, or_false, List.nodup_nil, and_true, not_false_eq_true]
            omega
          · have e4 : (fun _ : Unit => ouW (ad 16) T (vp_updL f (0 : Int32).toNatClampNeg (nI (N 0)).toInt64) :: (iw [0, 1, 6, 20, 2 + j] ad (hG (aM ad (ad 20)) T ea (vp_updL f (0 : Int32).toNatClampNeg (nI (N 0)).toInt64) (Nm N) (mM N mst j) bst (rM ρ)) ++ [])) = fun _ => (ad 16, .inl (T 2, 1, .inr (.inl (vp_updL f (0 : Int32).toNatClampNeg (nI (N 0)).toInt64)))) :: [(ad 0, (Sum.inr (6, hsF ad (ρ 0 0)) : va_E)), (ad 1, .inl (T 4, 4, qa (stf ad))), (ad 6, .inr (0, [.int (ρ 6 0 + 1), .ref (ad 20), .int (nI (N 0 + 1))])), (ad 20, .inl (T 3, cap (N 0), qa (va_up (liF ad (fun i => 2 + mst i) (N 0)) (N 0) (some (ad (2 + j)))))), (ad (2 + j), .inr (5, [.int (ρ (2 + j) 0), .int (ρ (2 + j) 1), .int (ρ (2 + j) 2)]))] := funext (fun _ => by rw [e2 (vp_updL f (0 : Int32).toNatClampNeg (nI (N 0)).toInt64)])
            rw [e4]
            exact hw
          · rw [List.append_nil, List.append_nil]
            have e : aM ad (ad 20) = ad := funext (fun _ => aM_s)
            rw [e]
        · have hfull : cap (N 0) = N 0 := by omega
          have hcs : cap (N 0 + 1) = N 0 + N 0 / 2 ∧ 2 ≤ N 0 := by
            have hh := hfull
            unfold cap at hh ⊢
            by_cases a1 : N 0 ≤ 10
            · rw [if_pos a1] at hh
              rw [if_neg (by omega), if_pos (by omega)]
              omega
            · rw [if_neg a1] at hh
              by_cases a2 : N 0 ≤ 15
              · rw [if_pos a2] at hh
                rw [if_neg (by omega), if_neg (by omega)]
                omega
              · rw [if_neg a2] at hh
                omega
          have hes : ∀ s, s < 4 → (iw [2, 3, 4, 5] ad (hG ad T ea f N mst bst ρ))[s]? = some (ad (2 + s), .inr (5, [.int (ρ (2 + s) 0), .int (ρ (2 + s) 1), .int (ρ (2 + s) 2)])) := fun s hs => by
            rw [← hG_s (ad := ad) (T := T) (ea := ea) (f := f) (N := N) (mst := mst) (bst := bst) (ρ := ρ) hs]
            refine iw_get ?_
            have e : s = 0 ∨ s = 1 ∨ s = 2 ∨ s = 3 := by omega
            rcases e with rfl | rfl | rfl | rfl <;> rfl
          have hM : ZIH l yX5_melt wsX5_melt (zrmc 7 201 1 (N 0 + N 0 / 2)) (zW ea mi sa) D T (S := Nat) ((ad 0, .inr (6, hsF ad (ρ 0 0))) :: ([(ad 1, .inl (T 4, 4, qa (stf ad))), (ad 20, .inl (T 3, N 0, qa (liF ad (fun i => 2 + mst i) (N 0)))), (ad 6, .inr (0, [.int (ρ 6 0), .ref (ad 20), .int (nI (N 0))]))] ++ iw [2, 3, 4, 5] ad (hG ad T ea f N mst bst ρ))) (fun u => (ad 0, .inr (6, hsF ad (ρ 0 0))) :: (([(ad 1, .inl (T 4, 4, qa (stf ad))), (ad 20, .inl (T 3, N 0, qa (liF ad (fun i => 2 + mst i) (N 0)))), (ad 6, .inr (0, [.int (ρ 6 0 + 1), .ref u, .int (nI (N 0 + 1))]))] ++ iw [2, 3, 4, 5] ad (hG ad T ea f N mst bst ρ)) ++ [(u, .inl (T 3, (N 0 + N 0 / 2), qa (va_up (va_cpy (liF ad (fun i => 2 + mst i) (N 0)) (fun _ => none) 0 0 (N 0)) (N 0) (some (ad (2 + j))))))])) [.ref (ad 0), .int (nI j)] (nI (N 0)) 1 (N 0 + N 0 / 2) :=
            ch_melt_f l D T ea mi sa (ad 0) ad (ρ 0 0) (stf ad) (ad (2 + j)) j hj (stf_at ad hj) (ρ 6 0) (ad 20) (N 0) (liF ad (fun i => 2 + mst i) (N 0)) (iw [2, 3, 4, 5] ad (hG ad T ea f N mst bst ρ)) j _ h4 hcs.2 (hes j hj) (fun i y hi hy => by
              rw [liF_at hi] at hy
              have hy2 := Option.some.inj hy
              exact ⟨mst i, _, by rw [← hy2]; exact hes (mst i) (hm4 i hi)⟩)
          have hw := lk_melt l D T ea mi sa _ (ad 16) f (nI j) hM ⟨rfl, rfl⟩ (fun u k hk => List.getElem?_append_left (l₁ := [ad 0, ad 1, ad 20, ad 6, ad 2, ad 3, ad 4, ad 5]) (l₂ := [u]) hk) (fun _ => Nat.le_of_ble_eq_true rfl)
          rw [cpy_liF, ← hcs.1] at hw
          have e1 : iw [0, 1, 20, 6, 2, 3, 4, 5] ad (hG ad T ea f N mst bst ρ) = (ad 0, .inr (6, hsF ad (ρ 0 0))) :: ([(ad 1, .inl (T 4, 4, qa (stf ad))), (ad 20, .inl (T 3, N 0, qa (liF ad (fun i => 2 + mst i) (N 0)))), (ad 6, .inr (0, [.int (ρ 6 0), .ref (ad 20), .int (nI (N 0))]))] ++ iw [2, 3, 4, 5] ad (hG ad T ea f N mst bst ρ)) := by
            have e9 : hG ad T ea f N mst bst ρ 20 = .inl (T 3, N 0, qa (liF ad (fun i => 2 + mst i) (N 0))) := by
              show (Sum.inl (T 3, cap (N 0), qa (liF ad (fun i => 2 + mst i) (N 0))) : va_E) = _
              rw [hfull]
            rw [iw_cons, iw_cons, iw_cons, iw_cons, hG_6 hp, e9]
            rfl
          obtain ⟨G9, hG9⟩ : ∃ G9 : Nat → Nat → va_E, G9 = fun u => hG (aM ad u) T ea (vp_updL f (0 : Int32).toNatClampNeg (nI (N 0)).toInt64) (Nm N) (mM N mst j) bst (rM ρ) := ⟨_, rfl⟩
          obtain ⟨G', hG'⟩ : ∃ G' : Nat → Nat → va_E, G' = fun u k => if k = 20 then .inl (T 3, N 0, qa (liF ad (fun i => 2 + mst i) (N 0))) else G9 u k := ⟨_, rfl⟩
          have q20 : ∀ u, G' u 20 = .inl (T 3, N 0, qa (liF ad (fun i => 2 + mst i) (N 0))) := fun u => by rw [hG']; exact if_pos rfl
          have qo : ∀ u k, k ≠ 20 → G' u k = G9 u k := fun u k hk => by rw [hG']; exact if_neg hk
          have qk : ∀ u k, liv N k → k ≠ 6 → k ≠ 20 → G' u k = hG ad T ea f N mst bst ρ k := fun u k hl h6 h20 => by rw [qo u k h20, hG9]; exact g9 u _ k hl h6 h20
          have q6 : ∀ u, G' u 6 = .inr (0, [.int (ρ 6 0 + 1), .ref u, .int (nI (N 0 + 1))]) := fun u => by rw [qo u 6 (by decide), hG9]; exact r6 u _
          have q9 : ∀ u, G9 u 20 = .inl (T 3, cap (N 0 + 1), qa (va_up (liF ad (fun i => 2 + mst i) (N 0)) (N 0) (some (ad (2 + j))))) := fun u => by rw [hG9]; exact r20 u _
          have e2 : ∀ u : Nat, (ad 0, (Sum.inr (6, hsF ad (ρ 0 0)) : va_E)) :: (([(ad 1, .inl (T 4, 4, qa (stf ad))), (ad 20, .inl (T 3, N 0, qa (liF ad (fun i => 2 + mst i) (N 0)))), (ad 6, .inr (0, [.int (ρ 6 0 + 1), .ref u, .int (nI (N 0 + 1))]))] ++ iw [2, 3, 4, 5] ad (hG ad T ea f N mst bst ρ)) ++ [(u, .inl (T 3, cap (N 0 + 1), qa (va_up (liF ad (fun i => 2 + mst i) (N 0)) (N 0) (some (ad (2 + j))))))]) = iw [0, 1, 20, 6, 2, 3, 4, 5] ad (G' u) ++ [(u, G9 u 20)] := fun u => by
            have e5 : iw [2, 3, 4, 5] ad (G' u) = iw [2, 3, 4, 5] ad (hG ad T ea f N mst bst ρ) := by
              unfold iw
              refine List.map_congr_left (fun k hk => ?_)
              simp only [List.mem_cons, List.not_mem_nil, or_false] at hk
              rw [qk u k (Or.inl (by omega)) (by omega) (by omega)]
            show _ = (ad 0, G' u 0) :: (ad 1, G' u 1) :: (ad 20, G' u 20) :: (ad 6, G' u 6) :: (iw [2, 3, 4, 5] ad (G' u) ++ [(u, G9 u 20)])
            rw [e5, qk u 0 (Or.inl (by decide)) (by decide) (by decide), qk u 1 (Or.inl (by decide)) (by decide) (by decide), q20, q6, q9]
            rfl
          rw [← e1] at hw
          refine step_b (rm := lkR (zrmc 7 201 1 (cap (N 0 + 1))) 4 1 (cap (N 0 + 1))) (mc := 1) (ms := cap (N 0 + 1)) (f' := vp_updL f (0 : Int32).toNatClampNeg (nI (N 0)).toInt64) (S1 := Nat) (S2 := Unit) (js := [0, 1, 20, 6, 2, 3, 4, 5]) (G' := G') (tl := fun u => [(u, G9 u 20)]) hI (by decide) (fun k hk => by simp only [List.mem_cons, List.not_mem_nil, or_false] at hk; unfold liv; omega) ?_ ⟨rfl, rfl, Nat.le_of_ble_eq_true rfl, Nat.le_of_ble_eq_true rfl⟩ ⟨by decide, ?_⟩ (fun u => by rw [qo u 16 (by decide), hG9]; rfl) (fun u k hk hn => qk u k ((hmm k).mp hk) (fun e => hn (by rw [e]; simp)) (fun e => hn (by rw [e]; simp))) (zI_M hm) (fun _ => rfl) (fun _ => vpL _ _) (fun u _ => ⟨aM ad u, J, Nm N, mM N mst j, bst, rM ρ, aM_o (by omega), aM_o (by omega), ?_, melt_inv hj hI h4 hJ hJm⟩)
          · have e4 : (fun u : Nat => ouW (ad 16) T (vp_updL f (0 : Int32).toNatClampNeg (nI (N 0)).toInt64) :: (iw [0, 1, 20, 6, 2, 3, 4, 5] ad (G' u) ++ [(u, G9 u 20)])) = fun u => (ad 16, .inl (T 2, 1, .inr (.inl (vp_updL f (0 : Int32).toNatClampNeg (nI (N 0)).toInt64)))) :: ((ad 0, (Sum.inr (6, hsF ad (ρ 0 0)) : va_E)) :: (([(ad 1, .inl (T 4, 4, qa (stf ad))), (ad 20, .inl (T 3, N 0, qa (liF ad (fun i => 2 + mst i) (N 0)))), (ad 6, .inr (0, [.int (ρ 6 0 + 1), .ref u, .int (nI (N 0 + 1))]))] ++ iw [2, 3, 4, 5] ad (hG ad T ea f N mst bst ρ)) ++ [(u, .inl (T 3, cap (N 0 + 1), qa (va_up (liF ad (fun i => 2 + mst i) (N 0)) (N 0) (some (ad (2 + j))))))])) := funext (fun u => by rw [e2 u])
            rw [e4]
            exact hw
          · rw [hcs.1]
            omega
          · have pp := perm_swap (K := []) (ad := ad) (ad' := aM ad u) (G := G' u) (G9 := G9 u) (tl := [(u, G9 u 20)]) hJ ((hmm 20).mpr (Or.inr (Or.inl ⟨rfl, hp⟩))) (fun k hk hne => ⟨aM_o hne, (qo u k hne).symm⟩) (by rw [iw_nil, List.nil_append, aM_20])
            rw [List.append_nil] at pp
            rw [hG9] at pp ⊢
            exact pp
    · have hg : gth (bin (nI j) 0 3) (if σ 3 0 < 20 then 1 else 0) 1 = 2 := by
        have hlt : ¬ nI (N 0) < 20 := fun q => h4 ((nI_ltI (b := 20) (by omega) (by decide)).mp q)
        rw [hb, h3, if_neg hlt]
        rfl
      have hm := cm_melt_bad l D T om am σ (nI j) (by rw [hg]; decide)
      rw [hg] at hm
      have hp : 0 < N 0 := by omega
      exact badJ (js := [0, 1, 6]) hI (by decide) (fun j hj => by simp only [List.mem_cons, List.not_mem_nil, or_false] at hj; unfold liv; omega) (by rw [iw_cons, iw_cons, iw_cons, iw_nil, hG_6 hp]; rfl) (lk_melt_2 l D T ea mi sa _ (ad 16) f (nI j) (ch_melt_w l hfl D T ea mi sa (ad 0) ad (ρ 0 0) (stf ad) (ad (2 + j)) j hj (stf_at ad hj) (ρ 6 0) (ad 20) (N 0) (by omega) (by omega)) ⟨rfl, rfl⟩) ⟨rfl, rfl, by decide, by decide⟩ (by decide) hm
end MELT
