/-! ===== steps: a new billet, the call ===== -/
section BILLET2
variable {l : Launch} {D : va_G} {T : Nat → ClassId} {ea mi : Nat} {sa : Nat → Nat} {om : Nat} {am : Nat → Nat}
variable {C : Nat} {ad : Nat → Nat} {J : List Nat} {N mst bst : Nat → Nat} {ρ σ : Nat → Nat → Int32} {f : Nat → Int64}
theorem st_billet (hfl : l.stackTraces = false) (hC : C ≤ 600) (hI : Inv C J N mst bst ρ σ) (x w : Int32) : StepR l D T ea mi sa yL_billet wsL_billet 5 [.ref (ad 0), .int x, .int w, .ref (ad 16)] yX6_billet wsX6_billet (zrm 1 23) [.ref om, .int x, .int w] (fun r => r.toInt64) om am C ad J N mst bst ρ σ f := by
  have hJ := hI.1.1
  have hmm := hI.1.2.1
  have hn0 := hI.1.2.2.1
  have hn1 := hI.1.2.2.2.1
  have hn2 := hI.1.2.2.2.2.1
  have h3 := hI.1.2.2.2.2.2.1
  have h5 := hI.1.2.2.2.2.2.2.1
  rcases bin_01 x 0 (σ 3 0 - 1) with hb | hb
  · have hv := bin_n0 (by omega) (h3 ▸ hb)
    have hg : gth (bin x 0 (σ 3 0 - 1)) (bin w 2 200) (if σ 5 0 < 12 then 1 else 0) = 1 := by rw [hb]; rfl
    have hm := cm_billet_bad l D T om am σ x w (by rw [hg]; decide)
    rw [hg] at hm
    exact badJ (js := [0, 6]) hI (by decide) (fun j hj => by simp only [List.mem_cons, List.not_mem_nil, or_false] at hj; unfold liv; omega) rfl (lk_billet_1 l D T ea mi sa _ (ad 16) f x w (ch_billet_b l hfl D T ea mi sa (ad 0) ad (ρ 0 0) (ρ 6 0) (if N 0 = 0 then ea else ad 20) (N 0) x w hv) ⟨rfl, rfl⟩) ⟨rfl, rfl, by decide, by decide⟩ (by decide) hm
  · obtain ⟨mo, hmo, rfl⟩ := bin_n1 (by omega) (h3 ▸ hb)
    have hp0 : 0 < N 0 := by omega
    have ms4 : mst mo < 4 := (hI.2.2.1 mo hmo).1
    have d1 := (cap_le (g := N 0) (by omega)).1
    have d2 := (cap_le (g := N 0) (by omega)).2
    have b06 : iw [0, 6] ad (hG ad T ea f N mst bst ρ) = [(ad 0, .inr (6, hsF ad (ρ 0 0))), (ad 6, .inr (0, [.int (ρ 6 0), .ref (ad 20), .int (nI (N 0))]))] := by
      rw [iw_cons, iw_cons, iw_nil, hG_6 hp0]
      rfl
    rcases bin_01 w 2 200 with hz | hz
    · have hg : gth (bin (nI mo) 0 (σ 3 0 - 1)) (bin w 2 200) (if σ 5 0 < 12 then 1 else 0) = 2 := by rw [hb, hz]; rfl
      have hm := cm_billet_bad l D T om am σ (nI mo) w (by rw [hg]; decide)
      rw [hg] at hm
      exact badJ (js := [0, 6]) hI (by decide) (fun j hj => by simp only [List.mem_cons, List.not_mem_nil, or_false] at hj; unfold liv; omega) b06 (lk_billet_2 l D T ea mi sa _ (ad 16) f (nI mo) w (ch_billet_a l hfl D T ea mi sa (ad 0) ad (ρ 0 0) (ρ 6 0) (ad 20) (N 0) mo hmo (by omega) w (bin0.mp hz)) ⟨rfl, rfl⟩) ⟨rfl, rfl, by decide, by decide⟩ (by decide) hm
    · obtain ⟨k1, k2⟩ := bin_k1 hz
      obtain ⟨nw, w1, w2, hnw⟩ := nat_of (hi := 200) (by decide) (fun q => k1 (Int32.lt_trans q (by decide))) k2
      by_cases h4 : N 1 < 12
      · have hm := cm_billet_ok l D T om am σ mo (N 1) w (by omega) h4 h5 hb hz
        have hbb : ∀ i, i < N 1 → bB N bst (mst mo) i = bst i ∧ bst i < 4 := fun i hi => ⟨bB_o (by omega), bst4 hI hi⟩
        have hmm4 : ∀ i, i < N 0 → mst i = mst i ∧ mst i < 4 := fun i hi => ⟨rfl, (hI.2.2.1 i hi).1⟩
        by_cases h0 : N 1 = 0
        · have hw := lk_billet l D T ea mi sa _ (ad 16) f (nI mo) w (ch_billet_e l D T ea mi sa (ad 0) ad (ρ 0 0) (ρ 6 0) (ad 20) (cap (N 0)) (N 0) (liF ad (fun i => 2 + mst i) (N 0)) (ad (2 + mst mo)) mo w hmo d1 d2 (liF_at hmo) k1 k2 (ρ (2 + mst mo)) (ρ 7 0)) ⟨rfl, rfl⟩ (fun u k hk => List.getElem?_append_left (l₁ := [ad 0, ad 6, ad 20, ad (2 + mst mo), ad 7]) (l₂ := [u.1, u.2.1, u.2.2.1, u.2.2.2]) hk) (fun _ => Nat.le_of_ble_eq_true rfl)
          have e1 : iw [0, 6, 20, 2 + mst mo, 7] ad (hG ad T ea f N mst bst ρ) = [(ad 0, (Sum.inr (6, hsF ad (ρ 0 0)) : va_E)), (ad 6, .inr (0, [.int (ρ 6 0), .ref (ad 20), .int (nI (N 0))])), (ad 20, .inl (T 3, cap (N 0), qa (liF ad (fun i => 2 + mst i) (N 0)))), (ad (2 + mst mo), .inr (5, [.int (ρ (2 + mst mo) 0), .int (ρ (2 + mst mo) 1), .int (ρ (2 + mst mo) 2)])), (ad 7, .inr (0, [.int (ρ 7 0), .ref ea, .int 0]))] := by
            have e7 : hG ad T ea f N mst bst ρ 7 = .inr (0, [.int (ρ 7 0), .ref ea, .int 0]) := by
              show (Sum.inr (0, [Value.int (ρ 7 0), Value.ref (if N 1 = 0 then ea else ad 21), Value.int (nI (N 1))]) : va_E) = _
              rw [if_pos h0, h0, nI_0]
            rw [iw_cons, iw_cons, iw_cons, iw_cons, iw_cons, iw_nil, hG_6 hp0, hG_s ms4, e7]
            rfl
          have g9 : ∀ (u : Nat × Nat × Nat × Nat) (f9 : Nat → Int64) (k : Nat), liv N k → k ≠ 7 → k ≠ 21 → hG (aB ad N u.1 u.2.1 u.2.2.1 u.2.2.2) T ea f9 (Nb N) mst (bB N bst (mst mo)) (rB N ρ mo w) k = hG ad T ea f N mst bst ρ k := fun u f9 k hl h7 h21 => by
            have hne : k ≠ 100 + 3 * N 1 ∧ k ≠ 101 + 3 * N 1 ∧ k ≠ 102 + 3 * N 1 := by
              unfold liv at hl
              omega
            exact hG_new hl (fun k hk => aB_o (by omega) (by omega) (by omega) (by omega)) (fun k k1 k2 => aB_o (by omega) (by omega) (by omega) (by omega)) (fun k k1 k2 => aB_o (by omega) (by omega) (by omega) (by omega)) hbb hn1 hn2 (rB_o h7 hne.1 hne.2.1 hne.2.2) (fun _ => ⟨rfl, aB_o (by omega) (by omega) (by omega) (by omega), hmm4⟩) (fun h => absurd h (by omega)) (fun _ => ⟨rfl, aB_o (by omega) (by omega) (by omega) (by omega)⟩)
          have e2 : ∀ (u : Nat × Nat × Nat × Nat) (f9 : Nat → Int64), [(ad 0, (Sum.inr (6, hsF ad (ρ 0 0)) : va_E)), (ad 6, .inr (0, [.int (ρ 6 0), .ref (ad 20), .int (nI (N 0))])), (ad 20, .inl (T 3, cap (N 0), qa (liF ad (fun i => 2 + mst i) (N 0)))), (ad (2 + mst mo), .inr (5, [.int (ρ (2 + mst mo) 0), .int (ρ (2 + mst mo) 1), .int (ρ (2 + mst mo) 2)])), (ad 7, .inr (0, [.int (ρ 7 0 + 1), .ref u.2.2.2, .int 1])), (u.1, .inr (1, biF u.2.1 u.2.2.1 (ad (2 + mst mo)) (nwB mo w))), (u.2.1, .inl (T 0, 8, .inl (fi0 (fun _ => 0) w 8))), (u.2.2.1, .inl (T 0, 8, .inl (fun _ => 0))), (u.2.2.2, .inl (T 3, 10, qa (va_up (fun _ => none) 0 (some u.1))))] = iw [0, 6, 20, 2 + mst mo, 7] ad (hG (aB ad N u.1 u.2.1 u.2.2.1 u.2.2.2) T ea f9 (Nb N) mst (bB N bst (mst mo)) (rB N ρ mo w)) ++ iw [100 + 3 * N 1, 101 + 3 * N 1, 102 + 3 * N 1, 21] (aB ad N u.1 u.2.1 u.2.2.1 u.2.2.2) (hG (aB ad N u.1 u.2.1 u.2.2.1 u.2.2.2) T ea f9 (Nb N) mst (bB N bst (mst mo)) (rB N ρ mo w)) := fun u f9 => by
            have r7 : hG (aB ad N u.1 u.2.1 u.2.2.1 u.2.2.2) T ea f9 (Nb N) mst (bB N bst (mst mo)) (rB N ρ mo w) 7 = .inr (0, [.int (ρ 7 0 + 1), .ref u.2.2.2, .int 1]) := by
              rw [hG_7 (show 0 < Nb N 1 from Nat.succ_pos _), aB_21, rB_7, show Nb N 1 = N 1 + 1 from rfl, h0]
              rfl
            have r21 : hG (aB ad N u.1 u.2.1 u.2.2.1 u.2.2.2) T ea f9 (Nb N) mst (bB N bst (mst mo)) (rB N ρ mo w) 21 = .inl (T 3, 10, qa (va_up (fun _ => none) 0 (some u.1))) := by
              rw [liF_0 (ad' := aB ad N u.1 u.2.1 u.2.2.1 u.2.2.2) (ix' := fun i => 100 + 3 * i) (a := u.1) (by rw [← h0]; exact aB_b)]
              show (Sum.inl (T 3, cap (Nb N 1), qa (liF (aB ad N u.1 u.2.1 u.2.2.1 u.2.2.2) (fun i => 100 + 3 * i) (Nb N 1))) : va_E) = _
              rw [show Nb N 1 = N 1 + 1 from rfl, h0]
              rfl
            have rb : hG (aB ad N u.1 u.2.1 u.2.2.1 u.2.2.2) T ea f9 (Nb N) mst (bB N bst (mst mo)) (rB N ρ mo w) (100 + 3 * N 1) = .inr (1, biF u.2.1 u.2.2.1 (ad (2 + mst mo)) (nwB mo w)) := by
              rw [hG_b h4, aB_a, aB_q, bB_n, rB_b, (show aB ad N u.1 u.2.1 u.2.2.1 u.2.2.2 (2 + mst mo) = ad (2 + mst mo) from aB_o (by omega) (by omega) (by omega) (by omega))]
            have ra : hG (aB ad N u.1 u.2.1 u.2.2.1 u.2.2.2) T ea f9 (Nb N) mst (bB N bst (mst mo)) (rB N ρ mo w) (101 + 3 * N 1) = .inl (T 0, 8, .inl (fi0 (fun _ => 0) w 8)) := by
              rw [hG_a h4, rB_a]
            have rq : hG (aB ad N u.1 u.2.1 u.2.2.1 u.2.2.2) T ea f9 (Nb N) mst (bB N bst (mst mo)) (rB N ρ mo w) (102 + 3 * N 1) = .inl (T 0, 8, .inl (fun _ => 0)) := by
              rw [hG_q h4, rB_q]
            have b0 := g9 u f9 0 (Or.inl (by decide)) (by decide) (by decide)
            have b6 := (g9 u f9 6 (Or.inl (by decide)) (by decide) (by decide)).trans (hG_6 hp0)
            have b20 := g9 u f9 20 (Or.inr (Or.inl ⟨rfl, hp0⟩)) (by decide) (by decide)
            have bs := (g9 u f9 (2 + mst mo) (Or.inl (by omega)) (by omega) (by omega)).trans (hG_s ms4)
            generalize hG (aB ad N u.1 u.2.1 u.2.2.1 u.2.2.2) T ea f9 (Nb N) mst (bB N bst (mst mo)) (rB N ρ mo w) = GG at *
            rw [iw_cons, iw_cons, iw_cons, iw_cons, iw_cons, iw_nil, iw_cons, iw_cons, iw_cons, iw_cons, iw_nil, b0, b6, b20, bs, r7, r21, rb, ra, rq, aB_b, aB_a, aB_q, aB_21]
            rfl
          rw [← e1] at hw
          refine step_b (rm := lkR (zrmc 5 151 4 44) 4 4 44) (mc := 4) (ms := 44) (f' := (vp_updL f (0 : Int32).toNatClampNeg (0).toInt64)) (S1 := Nat × Nat × Nat × Nat) (S2 := Unit) (js := [0, 6, 20, 2 + mst mo, 7]) (G' := fun u => hG (aB ad N u.1 u.2.1 u.2.2.1 u.2.2.2) T ea (vp_updL f (0 : Int32).toNatClampNeg (0).toInt64) (Nb N) mst (bB N bst (mst mo)) (rB N ρ mo w)) (tl := fun u => iw [100 + 3 * N 1, 101 + 3 * N 1, 102 + 3 * N 1, 21] (aB ad N u.1 u.2.1 u.2.2.1 u.2.2.2) (hG (aB ad N u.1 u.2.1 u.2.2.1 u.2.2.2) T ea (vp_updL f (0 : Int32).toNatClampNeg (0).toInt64) (Nb N) mst (bB N bst (mst mo)) (rB N ρ mo w))) hI ?_ (fun k hk => by simp only [List.mem_cons, List.not_mem_nil, or_false] at hk; unfold liv; omega) ?_ ⟨rfl, rfl, by decide, by decide⟩ ⟨by decide, by decide⟩ (fun _ => rfl) (fun u k hk hn => g9 u _ k ((hmm k).mp hk) (fun e => hn (by rw [e]; simp)) (fun e => by have := (hmm k).mp hk; unfold liv at this; omega)) (zI_M hm) (fun _ => rfl) (fun _ => (vpL _ _).trans (congrArg Int32.toInt64 (show (0 : Int32) = nI (N 1) by rw [h0, nI_0]))) (fun u _ => ⟨aB ad N u.1 u.2.1 u.2.2.1 u.2.2.2, J ++ [100 + 3 * N 1, 101 + 3 * N 1, 102 + 3 * N 1, 21], Nb N, mst, bB N bst (mst mo), rB N ρ mo w, aB_o (by omega) (by omega) (by omega) (by omega), aB_o (by omega) (by omega) (by omega) (by omega), perm_new (fun k hk => ?_) (List.Perm.refl _), billet_inv hmo hnw (by omega) w2 hI h4 ?_ (fun k => ?_)⟩)
          · simp only [List.nodup_cons, List.mem_cons, List.not_mem_nil, or_false, List.nodup_nil, and_true, not_false_eq_true]
            omega
          · have e4 : (fun u : Nat × Nat × Nat × Nat => ouW (ad 16) T (vp_updL f (0 : Int32).toNatClampNeg (0).toInt64) :: (iw [0, 6, 20, 2 + mst mo, 7] ad (hG (aB ad N u.1 u.2.1 u.2.2.1 u.2.2.2) T ea (vp_updL f (0 : Int32).toNatClampNeg (0).toInt64) (Nb N) mst (bB N bst (mst mo)) (rB N ρ mo w)) ++ iw [100 + 3 * N 1, 101 + 3 * N 1, 102 + 3 * N 1, 21] (aB ad N u.1 u.2.1 u.2.2.1 u.2.2.2) (hG (aB ad N u.1 u.2.1 u.2.2.1 u.2.2.2) T ea (vp_updL f (0 : Int32).toNatClampNeg (0).toInt64) (Nb N) mst (bB N bst (mst mo)) (rB N ρ mo w)))) = fun u => (ad 16, .inl (T 2, 1, .inr (.inl (vp_updL f (0 : Int32).toNatClampNeg (0).toInt64)))) :: [(ad 0, (Sum.inr (6, hsF ad (ρ 0 0)) : va_E)), (ad 6, .inr (0, [.int (ρ 6 0), .ref (ad 20), .int (nI (N 0))])), (ad 20, .inl (T 3, cap (N 0), qa (liF ad (fun i => 2 + mst i) (N 0)))), (ad (2 + mst mo), .inr (5, [.int (ρ (2 + mst mo) 0), .int (ρ (2 + mst mo) 1), .int (ρ (2 + mst mo) 2)])), (ad 7, .inr (0, [.int (ρ 7 0 + 1), .ref u.2.2.2, .int 1])), (u.1, .inr (1, biF u.2.1 u.2.2.1 (ad (2 + mst mo)) (nwB mo w))), (u.2.1, .inl (T 0, 8, .inl (fi0 (fun _ => 0) w 8))), (u.2.2.1, .inl (T 0, 8, .inl (fun _ => 0))), (u.2.2.2, .inl (T 3, 10, qa (va_up (fun _ => none) 0 (some u.1))))] := funext (fun u => by rw [e2 u (vp_updL f (0 : Int32).toNatClampNeg (0).toInt64)])
            rw [e4]
            exact hw
          · have hl := (hmm k).mp hk
            have hne : k ≠ 100 + 3 * N 1 ∧ k ≠ 101 + 3 * N 1 ∧ k ≠ 102 + 3 * N 1 ∧ k ≠ 21 := by
              unfold liv at hl
              omega
            exact aB_o hne.1 hne.2.1 hne.2.2.1 hne.2.2.2
          · refine List.nodup_append.mpr ⟨hJ, ?_, fun a ha b hb e => ?_⟩
            · simp only [List.nodup_cons, List.mem_cons, List.not_mem_nil, or_false, List.nodup_nil, and_true, not_false_eq_true]
              omega
            · have hl := (hmm a).mp ha
              simp only [List.mem_cons, List.not_mem_nil, or_false] at hb
              unfold liv at hl
              omega
          · rw [List.mem_append, Nb_liv, hmm k]
            simp only [List.mem_cons, List.not_mem_nil, or_false]
            unfold liv
            omega

        · have hp : 0 < N 1 := Nat.pos_of_ne_zero h0
          have hc9 := cap_le (g := N 1) (by omega)
          by_cases hcp : N 1 < cap (N 1)
          · have hw := lk_billet l D T ea mi sa _ (ad 16) f (nI mo) w (ch_billet_r l D T ea mi sa (ad 0) ad (ρ 0 0) (ρ 6 0) (ad 20) (cap (N 0)) (N 0) (liF ad (fun i => 2 + mst i) (N 0)) (ad (2 + mst mo)) mo w hmo d1 d2 (liF_at hmo) k1 k2 (ρ (2 + mst mo)) (ρ 7 0) (ad 21) (cap (N 1)) (N 1) (liF ad (fun i => 100 + 3 * i) (N 1)) h4 hcp hc9.2) ⟨rfl, rfl⟩ (fun u k hk => List.getElem?_append_left (l₁ := [ad 0, ad 6, ad 20, ad (2 + mst mo), ad 7, ad 21]) (l₂ := [u.1, u.2.1, u.2.2]) hk) (fun _ => Nat.le_of_ble_eq_true rfl)
            have e1 : iw [0, 6, 20, 2 + mst mo, 7, 21] ad (hG ad T ea f N mst bst ρ) = [(ad 0, (Sum.inr (6, hsF ad (ρ 0 0)) : va_E)), (ad 6, .inr (0, [.int (ρ 6 0), .ref (ad 20), .int (nI (N 0))])), (ad 20, .inl (T 3, cap (N 0), qa (liF ad (fun i => 2 + mst i) (N 0)))), (ad (2 + mst mo), .inr (5, [.int (ρ (2 + mst mo) 0), .int (ρ (2 + mst mo) 1), .int (ρ (2 + mst mo) 2)])), (ad 7, .inr (0, [.int (ρ 7 0), .ref (ad 21), .int (nI (N 1))])), (ad 21, .inl (T 3, cap (N 1), qa (liF ad (fun i => 100 + 3 * i) (N 1))))] := by
              rw [iw_cons, iw_cons, iw_cons, iw_cons, iw_cons, iw_cons, iw_nil, hG_6 hp0, hG_s ms4, hG_7 hp]
              rfl
            have g9 : ∀ (u : Nat × Nat × Nat) (f9 : Nat → Int64) (k : Nat), liv N k → k ≠ 7 → k ≠ 21 → hG (aB ad N u.1 u.2.1 u.2.2 (ad 21)) T ea f9 (Nb N) mst (bB N bst (mst mo)) (rB N ρ mo w) k = hG ad T ea f N mst bst ρ k := fun u f9 k hl h7 h21 => by
              have hne : k ≠ 100 + 3 * N 1 ∧ k ≠ 101 + 3 * N 1 ∧ k ≠ 102 + 3 * N 1 := by
                unfold liv at hl
                omega
              exact hG_new hl (fun k hk => aB_s (by omega) (by omega) (by omega)) (fun k k1 k2 => aB_s (by omega) (by omega) (by omega)) (fun k k1 k2 => aB_s (by omega) (by omega) (by omega)) hbb hn1 hn2 (rB_o h7 hne.1 hne.2.1 hne.2.2) (fun _ => ⟨rfl, aB_s (by omega) (by omega) (by omega), hmm4⟩) (fun h => absurd h (by omega)) (fun _ => ⟨rfl, aB_s (by omega) (by omega) (by omega)⟩)
            have e2 : ∀ (u : Nat × Nat × Nat) (f9 : Nat → Int64), [(ad 0, (Sum.inr (6, hsF ad (ρ 0 0)) : va_E)), (ad 6, .inr (0, [.int (ρ 6 0), .ref (ad 20), .int (nI (N 0))])), (ad 20, .inl (T 3, cap (N 0), qa (liF ad (fun i => 2 + mst i) (N 0)))), (ad (2 + mst mo), .inr (5, [.int (ρ (2 + mst mo) 0), .int (ρ (2 + mst mo) 1), .int (ρ (2 + mst mo) 2)])), (ad 7, .inr (0, [.int (ρ 7 0 + 1), .ref (ad 21), .int (nI (N 1 + 1))])), (ad 21, .inl (T 3, cap (N 1), qa (va_up (liF ad (fun i => 100 + 3 * i) (N 1)) (N 1) (some u.1)))), (u.1, .inr (1, biF u.2.1 u.2.2 (ad (2 + mst mo)) (nwB mo w))), (u.2.1, .inl (T 0, 8, .inl (fi0 (fun _ => 0) w 8))), (u.2.2, .inl (T 0, 8, .inl (fun _ => 0)))] = iw [0, 6, 20, 2 + mst mo, 7, 21] ad (hG (aB ad N u.1 u.2.1 u.2.2 (ad 21)) T ea f9 (Nb N) mst (bB N bst (mst mo)) (rB N ρ mo w)) ++ iw [100 + 3 * N 1, 101 + 3 * N 1, 102 + 3 * N 1] (aB ad N u.1 u.2.1 u.2.2 (ad 21)) (hG (aB ad N u.1 u.2.1 u.2.2 (ad 21)) T ea f9 (Nb N) mst (bB N bst (mst mo)) (rB N ρ mo w)) := fun u f9 => by
              have r7 : hG (aB ad N u.1 u.2.1 u.2.2 (ad 21)) T ea f9 (Nb N) mst (bB N bst (mst mo)) (rB N ρ mo w) 7 = .inr (0, [.int (ρ 7 0 + 1), .ref (ad 21), .int (nI (N 1 + 1))]) := by
                rw [hG_7 (show 0 < Nb N 1 from Nat.succ_pos _), aB_21, rB_7, show Nb N 1 = N 1 + 1 from rfl]
              have r21 : hG (aB ad N u.1 u.2.1 u.2.2 (ad 21)) T ea f9 (Nb N) mst (bB N bst (mst mo)) (rB N ρ mo w) 21 = .inl (T 3, cap (N 1), qa (va_up (liF ad (fun i => 100 + 3 * i) (N 1)) (N 1) (some u.1))) := by
                rw [liF_up (ad' := aB ad N u.1 u.2.1 u.2.2 (ad 21)) (ix' := fun i => 100 + 3 * i) (a := u.1) (fun i hi => aB_s (by omega) (by omega) (by omega)) aB_b, ← cap_succ hcp]
                rfl
              have rb : hG (aB ad N u.1 u.2.1 u.2.2 (ad 21)) T ea f9 (Nb N) mst (bB N bst (mst mo)) (rB N ρ mo w) (100 + 3 * N 1) = .inr (1, biF u.2.1 u.2.2 (ad (2 + mst mo)) (nwB mo w)) := by
                rw [hG_b h4, aB_a, aB_q, bB_n, rB_b, (show aB ad N u.1 u.2.1 u.2.2 (ad 21) (2 + mst mo) = ad (2 + mst mo) from aB_s (by omega) (by omega) (by omega))]
              have ra : hG (aB ad N u.1 u.2.1 u.2.2 (ad 21)) T ea f9 (Nb N) mst (bB N bst (mst mo)) (rB N ρ mo w) (101 + 3 * N 1) = .inl (T 0, 8, .inl (fi0 (fun _ => 0) w 8)) := by
                rw [hG_a h4, rB_a]
              have rq : hG (aB ad N u.1 u.2.1 u.2.2 (ad 21)) T ea f9 (Nb N) mst (bB N bst (mst mo)) (rB N ρ mo w) (102 + 3 * N 1) = .inl (T 0, 8, .inl (fun _ => 0)) := by
                rw [hG_q h4, rB_q]
              have b0 := g9 u f9 0 (Or.inl (by decide)) (by decide) (by decide)
              have b6 := (g9 u f9 6 (Or.inl (by decide)) (by decide) (by decide)).trans (hG_6 hp0)
              have b20 := g9 u f9 20 (Or.inr (Or.inl ⟨rfl, hp0⟩)) (by decide) (by decide)
              have bs := (g9 u f9 (2 + mst mo) (Or.inl (by omega)) (by omega) (by omega)).trans (hG_s ms4)
              generalize hG (aB ad N u.1 u.2.1 u.2.2 (ad 21)) T ea f9 (Nb N) mst (bB N bst (mst mo)) (rB N ρ mo w) = GG at *
              rw [iw_cons, iw_cons, iw_cons, iw_cons, iw_cons, iw_cons, iw_nil, iw_cons, iw_cons, iw_cons, iw_nil, b0, b6, b20, bs, r7, r21, rb, ra, rq, aB_b, aB_a, aB_q]
              rfl
            rw [← e1] at hw
            refine step_b (rm := lkR (zrmc 3 64 3 34) 4 3 34) (mc := 3) (ms := 34) (f' := (vp_updL f (0 : Int32).toNatClampNeg (nI (N 1)).toInt64)) (S1 := Nat × Nat × Nat) (S2 := Unit) (js := [0, 6, 20, 2 + mst mo, 7, 21]) (G' := fun u => hG (aB ad N u.1 u.2.1 u.2.2 (ad 21)) T ea (vp_updL f (0 : Int32).toNatClampNeg (nI (N 1)).toInt64) (Nb N) mst (bB N bst (mst mo)) (rB N ρ mo w)) (tl := fun u => iw [100 + 3 * N 1, 101 + 3 * N 1, 102 + 3 * N 1] (aB ad N u.1 u.2.1 u.2.2 (ad 21)) (hG (aB ad N u.1 u.2.1 u.2.2 (ad 21)) T ea (vp_updL f (0 : Int32).toNatClampNeg (nI (N 1)).toInt64) (Nb N) mst (bB N bst (mst mo)) (rB N ρ mo w))) hI ?_ (fun k hk => by simp only [List.mem_cons, List.not_mem_nil, or_false] at hk; unfold liv; omega) ?_ ⟨rfl, rfl, by decide, by decide⟩ ⟨by decide, by decide⟩ (fun _ => rfl) (fun u k hk hn => g9 u _ k ((hmm k).mp hk) (fun e => hn (by rw [e]; simp)) (fun e => hn (by rw [e]; simp))) (zI_M hm) (fun _ => rfl) (fun _ => vpL _ _) (fun u _ => ⟨aB ad N u.1 u.2.1 u.2.2 (ad 21), J ++ [100 + 3 * N 1, 101 + 3 * N 1, 102 + 3 * N 1], Nb N, mst, bB N bst (mst mo), rB N ρ mo w, aB_s (by omega) (by omega) (by omega), aB_s (by omega) (by omega) (by omega), perm_new (fun k hk => ?_) (List.Perm.refl _), billet_inv hmo hnw (by omega) w2 hI h4 ?_ (fun k => ?_)⟩)
            · simp only [List.nodup_cons, List.mem_cons, List.not_mem_nil, or_false, List.nodup_nil, and_true, not_false_eq_true]
              omega
            · have e4 : (fun u : Nat × Nat × Nat => ouW (ad 16) T (vp_updL f (0 : Int32).toNatClampNeg (nI (N 1)).toInt64) :: (iw [0, 6, 20, 2 + mst mo, 7, 21] ad (hG (aB ad N u.1 u.2.1 u.2.2 (ad 21)) T ea (vp_updL f (0 : Int32).toNatClampNeg (nI (N 1)).toInt64) (Nb N) mst (bB N bst (mst mo)) (rB N ρ mo w)) ++ iw [100 + 3 * N 1, 101 + 3 * N 1, 102 + 3 * N 1] (aB ad N u.1 u.2.1 u.2.2 (ad 21)) (hG (aB ad N u.1 u.2.1 u.2.2 (ad 21)) T ea (vp_updL f (0 : Int32).toNatClampNeg (nI (N 1)).toInt64) (Nb N) mst (bB N bst (mst mo)) (rB N ρ mo w)))) = fun u => (ad 16, .inl (T 2, 1, .inr (.inl (vp_updL f (0 : Int32).toNatClampNeg (nI (N 1)).toInt64)))) :: [(ad 0, (Sum.inr (6, hsF ad (ρ 0 0)) : va_E)), (ad 6, .inr (0, [.int (ρ 6 0), .ref (ad 20), .int (nI (N 0))])), (ad 20, .inl (T 3, cap (N 0), qa (liF ad (fun i => 2 + mst i) (N 0)))), (ad (2 + mst mo), .inr (5, [.int (ρ (2 + mst mo) 0), .int (ρ (2 + mst mo) 1), .int (ρ (2 + mst mo) 2)])), (ad 7, .inr (0, [.int (ρ 7 0 + 1), .ref (ad 21), .int (nI (N 1 + 1))])), (ad 21, .inl (T 3, cap (N 1), qa (va_up (liF ad (fun i => 100 + 3 * i) (N 1)) (N 1) (some u.1)))), (u.1, .inr (1, biF u.2.1 u.2.2 (ad (2 + mst mo)) (nwB mo w))), (u.2.1, .inl (T 0, 8, .inl (fi0 (fun _ => 0) w 8))), (u.2.2, .inl (T 0, 8, .inl (fun _ => 0)))] := funext (fun u => by rw [e2 u (vp_updL f (0 : Int32).toNatClampNeg (nI (N 1)).toInt64)])
              rw [e4]
              exact hw
            · have hl := (hmm k).mp hk
              have hne : k ≠ 100 + 3 * N 1 ∧ k ≠ 101 + 3 * N 1 ∧ k ≠ 102 + 3 * N 1 := by
                unfold liv at hl
                omega
              exact aB_s hne.1 hne.2.1 hne.2.2
            · refine List.nodup_append.mpr ⟨hJ, ?_, fun a ha b hb e => ?_⟩
              · simp only [List.nodup_cons, List.mem_cons, List.not_mem_nil, or_false, List.nodup_nil, and_true, not_false_eq_true]
                omega
              · have hl := (hmm a).mp ha
                simp only [List.mem_cons, List.not_mem_nil, or_false] at hb
                unfold liv at hl
                omega
            · rw [List.mem_append, Nb_liv, hmm k]
              simp only [List.mem_cons, List.not_mem_nil, or_false]
              unfold liv
              omega

          · have h10 : N 1 = 10 := by
              have hh : ¬ N 1 < cap (N 1) := hcp
              unfold cap at hh
              by_cases a1 : N 1 ≤ 10
              · rw [if_pos a1] at hh
                omega
              · rw [if_neg a1, if_pos (by omega)] at hh
                omega
            have hfull : cap (N 1) = N 1 := by
              rw [h10]
              rfl
            have hcs : cap (N 1 + 1) = N 1 + N 1 / 2 := by
              rw [h10]
              rfl
            have hes : ∀ i, i < N 1 → (iw [100, 103, 106, 109, 112, 115, 118, 121, 124, 127] ad (hG ad T ea f N mst bst ρ))[i]? = some (ad (100 + 3 * i), .inr (1, biF (ad (101 + 3 * i)) (ad (102 + 3 * i)) (ad (2 + bst i)) (ρ (100 + 3 * i)))) := fun i hi => by
              rw [← hG_b (ad := ad) (T := T) (ea := ea) (f := f) (N := N) (mst := mst) (bst := bst) (ρ := ρ) (show i < 12 by omega)]
              have e : ∀ i, i < 10 → ([100, 103, 106, 109, 112, 115, 118, 121, 124, 127] : List Nat)[i]? = some (100 + 3 * i) := by decide
              exact iw_get (e i (by omega))
            have hM : ZIH l yX5_billet wsX5_billet (zrmc 7 201 4 (34 + (N 1 + N 1 / 2))) (zW ea mi sa) D T (S := Nat × Nat × Nat × Nat) ((ad 0, (Sum.inr (6, hsF ad (ρ 0 0)) : va_E)) :: ([(ad 6, .inr (0, [.int (ρ 6 0), .ref (ad 20), .int (nI (N 0))])), (ad 20, .inl (T 3, cap (N 0), qa (liF ad (fun i => 2 + mst i) (N 0)))), (ad (2 + mst mo), .inr (5, [.int (ρ (2 + mst mo) 0), .int (ρ (2 + mst mo) 1), .int (ρ (2 + mst mo) 2)])), (ad 21, .inl (T 3, N 1, qa (liF ad (fun i => 100 + 3 * i) (N 1)))), (ad 7, .inr (0, [.int (ρ 7 0), .ref (ad 21), .int (nI (N 1))]))] ++ iw [100, 103, 106, 109, 112, 115, 118, 121, 124, 127] ad (hG ad T ea f N mst bst ρ))) (fun u => (ad 0, (Sum.inr (6, hsF ad (ρ 0 0)) : va_E)) :: (([(ad 6, .inr (0, [.int (ρ 6 0), .ref (ad 20), .int (nI (N 0))])), (ad 20, .inl (T 3, cap (N 0), qa (liF ad (fun i => 2 + mst i) (N 0)))), (ad (2 + mst mo), .inr (5, [.int (ρ (2 + mst mo) 0), .int (ρ (2 + mst mo) 1), .int (ρ (2 + mst mo) 2)])), (ad 21, .inl (T 3, N 1, qa (liF ad (fun i => 100 + 3 * i) (N 1)))), (ad 7, .inr (0, [.int (ρ 7 0 + 1), .ref u.2.2.2, .int (nI (N 1 + 1))]))] ++ iw [100, 103, 106, 109, 112, 115, 118, 121, 124, 127] ad (hG ad T ea f N mst bst ρ)) ++ [(u.1, .inr (1, biF u.2.1 u.2.2.1 (ad (2 + mst mo)) (nwB mo w))), (u.2.1, .inl (T 0, 8, .inl (fi0 (fun _ => 0) w 8))), (u.2.2.1, .inl (T 0, 8, .inl (fun _ => 0))), (u.2.2.2, .inl (T 3, (N 1 + N 1 / 2), qa (va_up (va_cpy (liF ad (fun i => 100 + 3 * i) (N 1)) (fun _ => none) 0 0 (N 1)) (N 1) (some u.1))))])) [.ref (ad 0), .int (nI mo), .int w] (nI (N 1)) 4 (34 + (N 1 + N 1 / 2)) := by
              refine zIH_perm (ch_billet_f l D T ea mi sa (ad 0) ad (ρ 0 0) (ρ 6 0) (ad 20) (cap (N 0)) (N 0) (liF ad (fun i => 2 + mst i) (N 0)) (ad (2 + mst mo)) mo w hmo d1 d2 (liF_at hmo) k1 k2 (ρ (2 + mst mo)) (ρ 7 0) (ad 21) (N 1) (liF ad (fun i => 100 + 3 * i) (N 1)) (iw [100, 103, 106, 109, 112, 115, 118, 121, 124, 127] ad (hG ad T ea f N mst bst ρ)) h4 (by omega) (fun i y hi hy => by
                rw [liF_at hi] at hy
                have hy2 := Option.some.inj hy
                exact ⟨i, _, by rw [← hy2]; exact hes i hi⟩)) (fun u => ?_)
              refine List.Perm.cons _ (List.Perm.cons _ (List.Perm.cons _ (List.Perm.cons _ (List.Perm.cons _ (List.Perm.cons _ ?_)))))
              exact (List.perm_middle (a := (u.1, .inr (1, biF u.2.1 u.2.2.1 (ad (2 + mst mo)) (nwB mo w)))) (l₁ := iw [100, 103, 106, 109, 112, 115, 118, 121, 124, 127] ad (hG ad T ea f N mst bst ρ)) (l₂ := [(u.2.1, .inl (T 0, 8, .inl (fi0 (fun _ => 0) w 8))), (u.2.2.1, .inl (T 0, 8, .inl (fun _ => 0))), (u.2.2.2, .inl (T 3, (N 1 + N 1 / 2), qa (va_up (va_cpy (liF ad (fun i => 100 + 3 * i) (N 1)) (fun _ => none) 0 0 (N 1)) (N 1) (some u.1))))])).symm
            have hw := lk_billet l D T ea mi sa _ (ad 16) f (nI mo) w hM ⟨rfl, rfl⟩ (fun u k hk => List.getElem?_append_left (l₁ := [ad 0, ad 6, ad 20, ad (2 + mst mo), ad 21, ad 7, ad 100, ad 103, ad 106, ad 109, ad 112, ad 115, ad 118, ad 121, ad 124, ad 127]) (l₂ := [u.1, u.2.1, u.2.2.1, u.2.2.2]) hk) (fun _ => Nat.le_of_ble_eq_true rfl)
            rw [cpy_liF, ← hcs] at hw
            have e9 : hG ad T ea f N mst bst ρ 21 = .inl (T 3, N 1, qa (liF ad (fun i => 100 + 3 * i) (N 1))) := by
              show (Sum.inl (T 3, cap (N 1), qa (liF ad (fun i => 100 + 3 * i) (N 1))) : va_E) = _
              rw [hfull]
            have e1 : iw [0, 6, 20, 2 + mst mo, 21, 7, 100, 103, 106, 109, 112, 115, 118, 121, 124, 127] ad (hG ad T ea f N mst bst ρ) = (ad 0, (Sum.inr (6, hsF ad (ρ 0 0)) : va_E)) :: ([(ad 6, .inr (0, [.int (ρ 6 0), .ref (ad 20), .int (nI (N 0))])), (ad 20, .inl (T 3, cap (N 0), qa (liF ad (fun i => 2 + mst i) (N 0)))), (ad (2 + mst mo), .inr (5, [.int (ρ (2 + mst mo) 0), .int (ρ (2 + mst mo) 1), .int (ρ (2 + mst mo) 2)])), (ad 21, .inl (T 3, N 1, qa (liF ad (fun i => 100 + 3 * i) (N 1)))), (ad 7, .inr (0, [.int (ρ 7 0), .ref (ad 21), .int (nI (N 1))]))] ++ iw [100, 103, 106, 109, 112, 115, 118, 121, 124, 127] ad (hG ad T ea f N mst bst ρ)) := by
              show (ad 0, hG ad T ea f N mst bst ρ 0) :: (ad 6, hG ad T ea f N mst bst ρ 6) :: (ad 20, hG ad T ea f N mst bst ρ 20) :: (ad (2 + mst mo), hG ad T ea f N mst bst ρ (2 + mst mo)) :: (ad 21, hG ad T ea f N mst bst ρ 21) :: (ad 7, hG ad T ea f N mst bst ρ 7) :: (iw [100, 103, 106, 109, 112, 115, 118, 121, 124, 127] ad (hG ad T ea f N mst bst ρ)) = _
              rw [hG_6 hp0, hG_s ms4, hG_7 hp, e9]
              rfl
            obtain ⟨G9, hG9⟩ : ∃ G9 : (Nat × Nat × Nat × Nat) → Nat → va_E, G9 = fun u => hG (aB ad N u.1 u.2.1 u.2.2.1 u.2.2.2) T ea (vp_updL f (0 : Int32).toNatClampNeg (nI (N 1)).toInt64) (Nb N) mst (bB N bst (mst mo)) (rB N ρ mo w) := ⟨_, rfl⟩
            obtain ⟨G', hG'⟩ : ∃ G' : (Nat × Nat × Nat × Nat) → Nat → va_E, G' = fun u k => if k = 21 then .inl (T 3, N 1, qa (liF ad (fun i => 100 + 3 * i) (N 1))) else G9 u k := ⟨_, rfl⟩
            have q21 : ∀ u, G' u 21 = .inl (T 3, N 1, qa (liF ad (fun i => 100 + 3 * i) (N 1))) := fun u => by rw [hG']; exact if_pos rfl
            have qo : ∀ u k, k ≠ 21 → G' u k = G9 u k := fun u k hk => by rw [hG']; exact if_neg hk
            have qk : ∀ u k, liv N k → k ≠ 7 → k ≠ 21 → G' u k = hG ad T ea f N mst bst ρ k := fun u k hl h7 h21 => by
              rw [qo u k h21, hG9]
              have hne : k ≠ 100 + 3 * N 1 ∧ k ≠ 101 + 3 * N 1 ∧ k ≠ 102 + 3 * N 1 := by
                unfold liv at hl
                omega
              exact hG_new hl (fun k hk => aB_o (by omega) (by omega) (by omega) (by omega)) (fun k k1 k2 => aB_o (by omega) (by omega) (by omega) (by omega)) (fun k k1 k2 => aB_o (by omega) (by omega) (by omega) (by omega)) hbb hn1 hn2 (rB_o h7 hne.1 hne.2.1 hne.2.2) (fun _ => ⟨rfl, aB_o (by omega) (by omega) (by omega) (by omega), hmm4⟩) (fun h => absurd h (by omega)) (fun _ => ⟨rfl, aB_o (by omega) (by omega) (by omega) (by omega)⟩)
            have q7 : ∀ u, G' u 7 = .inr (0, [.int (ρ 7 0 + 1), .ref u.2.2.2, .int (nI (N 1 + 1))]) := fun u => by
              rw [qo u 7 (by decide), hG9]
              show hG (aB ad N u.1 u.2.1 u.2.2.1 u.2.2.2) T ea (vp_updL f (0 : Int32).toNatClampNeg (nI (N 1)).toInt64) (Nb N) mst (bB N bst (mst mo)) (rB N ρ mo w) 7 = _
              rw [hG_7 (show 0 < Nb N 1 from Nat.succ_pos _), aB_21, rB_7, show Nb N 1 = N 1 + 1 from rfl]
            have q9 : ∀ u, G9 u 21 = .inl (T 3, cap (N 1 + 1), qa (va_up (liF ad (fun i => 100 + 3 * i) (N 1)) (N 1) (some u.1))) := fun u => by
              rw [hG9]
              show hG (aB ad N u.1 u.2.1 u.2.2.1 u.2.2.2) T ea (vp_updL f (0 : Int32).toNatClampNeg (nI (N 1)).toInt64) (Nb N) mst (bB N bst (mst mo)) (rB N ρ mo w) 21 = _
              rw [liF_up (ad' := aB ad N u.1 u.2.1 u.2.2.1 u.2.2.2) (ix' := fun i => 100 + 3 * i) (a := u.1) (fun i hi => aB_o (by omega) (by omega) (by omega) (by omega)) aB_b]
              rfl
            have qb : ∀ u, G9 u (100 + 3 * N 1) = .inr (1, biF u.2.1 u.2.2.1 (ad (2 + mst mo)) (nwB mo w)) := fun u => by
              rw [hG9]
              show hG (aB ad N u.1 u.2.1 u.2.2.1 u.2.2.2) T ea (vp_updL f (0 : Int32).toNatClampNeg (nI (N 1)).toInt64) (Nb N) mst (bB N bst (mst mo)) (rB N ρ mo w) (100 + 3 * N 1) = _
              rw [hG_b h4, aB_a, aB_q, bB_n, rB_b, (show aB ad N u.1 u.2.1 u.2.2.1 u.2.2.2 (2 + mst mo) = ad (2 + mst mo) from aB_o (by omega) (by omega) (by omega) (by omega))]
            have qa9 : ∀ u, G9 u (101 + 3 * N 1) = .inl (T 0, 8, .inl (fi0 (fun _ => 0) w 8)) := fun u => by
              rw [hG9]
              show hG (aB ad N u.1 u.2.1 u.2.2.1 u.2.2.2) T ea (vp_updL f (0 : Int32).toNatClampNeg (nI (N 1)).toInt64) (Nb N) mst (bB N bst (mst mo)) (rB N ρ mo w) (101 + 3 * N 1) = _
              rw [hG_a h4, rB_a]
            have qq9 : ∀ u, G9 u (102 + 3 * N 1) = .inl (T 0, 8, .inl (fun _ => 0)) := fun u => by
              rw [hG9]
              show hG (aB ad N u.1 u.2.1 u.2.2.1 u.2.2.2) T ea (vp_updL f (0 : Int32).toNatClampNeg (nI (N 1)).toInt64) (Nb N) mst (bB N bst (mst mo)) (rB N ρ mo w) (102 + 3 * N 1) = _
              rw [hG_q h4, rB_q]
            obtain ⟨tl, htl⟩ : ∃ tl : (Nat × Nat × Nat × Nat) → va_W, tl = fun u => [(u.1, G9 u (100 + 3 * N 1)), (u.2.1, G9 u (101 + 3 * N 1)), (u.2.2.1, G9 u (102 + 3 * N 1)), (u.2.2.2, G9 u 21)] := ⟨_, rfl⟩
            have e2 : ∀ u : (Nat × Nat × Nat × Nat), (ad 0, (Sum.inr (6, hsF ad (ρ 0 0)) : va_E)) :: (([(ad 6, .inr (0, [.int (ρ 6 0), .ref (ad 20), .int (nI (N 0))])), (ad 20, .inl (T 3, cap (N 0), qa (liF ad (fun i => 2 + mst i) (N 0)))), (ad (2 + mst mo), .inr (5, [.int (ρ (2 + mst mo) 0), .int (ρ (2 + mst mo) 1), .int (ρ (2 + mst mo) 2)])), (ad 21, .inl (T 3, N 1, qa (liF ad (fun i => 100 + 3 * i) (N 1)))), (ad 7, .inr (0, [.int (ρ 7 0 + 1), .ref u.2.2.2, .int (nI (N 1 + 1))]))] ++ iw [100, 103, 106, 109, 112, 115, 118, 121, 124, 127] ad (hG ad T ea f N mst bst ρ)) ++ [(u.1, .inr (1, biF u.2.1 u.2.2.1 (ad (2 + mst mo)) (nwB mo w))), (u.2.1, .inl (T 0, 8, .inl (fi0 (fun _ => 0) w 8))), (u.2.2.1, .inl (T 0, 8, .inl (fun _ => 0))), (u.2.2.2, .inl (T 3, cap (N 1 + 1), qa (va_up (liF ad (fun i => 100 + 3 * i) (N 1)) (N 1) (some u.1))))]) = iw [0, 6, 20, 2 + mst mo, 21, 7, 100, 103, 106, 109, 112, 115, 118, 121, 124, 127] ad (G' u) ++ tl u := fun u => by
              have e5 : iw [100, 103, 106, 109, 112, 115, 118, 121, 124, 127] ad (G' u) = iw [100, 103, 106, 109, 112, 115, 118, 121, 124, 127] ad (hG ad T ea f N mst bst ρ) := by
                unfold iw
                refine List.map_congr_left (fun k hk => ?_)
                simp only [List.mem_cons, List.not_mem_nil, or_false] at hk
                rw [qk u k (by unfold liv; omega) (by omega) (by omega)]
              show _ = (ad 0, G' u 0) :: (ad 6, G' u 6) :: (ad 20, G' u 20) :: (ad (2 + mst mo), G' u (2 + mst mo)) :: (ad 21, G' u 21) :: (ad 7, G' u 7) :: (iw [100, 103, 106, 109, 112, 115, 118, 121, 124, 127] ad (G' u) ++ tl u)
              rw [e5, qk u 0 (Or.inl (by decide)) (by decide) (by decide), qk u 6 (Or.inl (by decide)) (by decide) (by decide), qk u 20 (Or.inr (Or.inl ⟨rfl, hp0⟩)) (by decide) (by decide), qk u (2 + mst mo) (Or.inl (by omega)) (by omega) (by omega), q21, q7, htl]
              show _ = (ad 0, hG ad T ea f N mst bst ρ 0) :: (ad 6, hG ad T ea f N mst bst ρ 6) :: _
              rw [hG_6 hp0, hG_s ms4]
              show _ = _ :: _ :: _ :: _ :: _ :: _ :: (iw [100, 103, 106, 109, 112, 115, 118, 121, 124, 127] ad (hG ad T ea f N mst bst ρ) ++ [(u.1, G9 u (100 + 3 * N 1)), (u.2.1, G9 u (101 + 3 * N 1)), (u.2.2.1, G9 u (102 + 3 * N 1)), (u.2.2.2, G9 u 21)])
              rw [qb, qa9, qq9, q9]
              rfl
            rw [← e1] at hw
            refine step_b (rm := lkR (zrmc 7 201 4 (34 + cap (N 1 + 1))) 4 4 (34 + cap (N 1 + 1))) (mc := 4) (ms := 34 + cap (N 1 + 1)) (f' := (vp_updL f (0 : Int32).toNatClampNeg (nI (N 1)).toInt64)) (S1 := Nat × Nat × Nat × Nat) (S2 := Unit) (js := [0, 6, 20, 2 + mst mo, 21, 7, 100, 103, 106, 109, 112, 115, 118, 121, 124, 127]) (G' := G') (tl := tl) hI ?_ (fun k hk => ?_) ?_ ⟨rfl, rfl, Nat.le_of_ble_eq_true rfl, Nat.le_of_ble_eq_true rfl⟩ ⟨by decide, ?_⟩ (fun u => by rw [qo u 16 (by decide), hG9]; rfl) (fun u k hk hn => qk u k ((hmm k).mp hk) (fun e => hn (by rw [e]; simp)) (fun e => hn (by rw [e]; simp))) (zI_M hm) (fun _ => rfl) (fun _ => vpL _ _) (fun u _ => ⟨aB ad N u.1 u.2.1 u.2.2.1 u.2.2.2, J ++ [100 + 3 * N 1, 101 + 3 * N 1, 102 + 3 * N 1], Nb N, mst, bB N bst (mst mo), rB N ρ mo w, aB_o (by omega) (by omega) (by omega) (by omega), aB_o (by omega) (by omega) (by omega) (by omega), ?_, billet_inv hmo hnw (by omega) w2 hI h4 ?_ (fun k => ?_)⟩)
            · simp only [List.nodup_cons, List.mem_cons, List.not_mem_nil, or_false, List.nodup_nil, and_true, not_false_eq_true]
              omega
            · simp only [List.mem_cons, List.not_mem_nil, or_false] at hk
              unfold liv
              omega
            · have e4 : (fun u : (Nat × Nat × Nat × Nat) => ouW (ad 16) T (vp_updL f (0 : Int32).toNatClampNeg (nI (N 1)).toInt64) :: (iw [0, 6, 20, 2 + mst mo, 21, 7, 100, 103, 106, 109, 112, 115, 118, 121, 124, 127] ad (G' u) ++ tl u)) = fun u => (ad 16, .inl (T 2, 1, .inr (.inl (vp_updL f (0 : Int32).toNatClampNeg (nI (N 1)).toInt64)))) :: ((ad 0, (Sum.inr (6, hsF ad (ρ 0 0)) : va_E)) :: (([(ad 6, .inr (0, [.int (ρ 6 0), .ref (ad 20), .int (nI (N 0))])), (ad 20, .inl (T 3, cap (N 0), qa (liF ad (fun i => 2 + mst i) (N 0)))), (ad (2 + mst mo), .inr (5, [.int (ρ (2 + mst mo) 0), .int (ρ (2 + mst mo) 1), .int (ρ (2 + mst mo) 2)])), (ad 21, .inl (T 3, N 1, qa (liF ad (fun i => 100 + 3 * i) (N 1)))), (ad 7, .inr (0, [.int (ρ 7 0 + 1), .ref u.2.2.2, .int (nI (N 1 + 1))]))] ++ iw [100, 103, 106, 109, 112, 115, 118, 121, 124, 127] ad (hG ad T ea f N mst bst ρ)) ++ [(u.1, .inr (1, biF u.2.1 u.2.2.1 (ad (2 + mst mo)) (nwB mo w))), (u.2.1, .inl (T 0, 8, .inl (fi0 (fun _ => 0) w 8))), (u.2.2.1, .inl (T 0, 8, .inl (fun _ => 0))), (u.2.2.2, .inl (T 3, cap (N 1 + 1), qa (va_up (liF ad (fun i => 100 + 3 * i) (N 1)) (N 1) (some u.1))))])) := funext (fun u => by rw [e2 u])
              rw [e4]
              exact hw
            · rw [hcs]
              omega
            · have pp := perm_swap (K := [100 + 3 * N 1, 101 + 3 * N 1, 102 + 3 * N 1]) (ad := ad) (ad' := aB ad N u.1 u.2.1 u.2.2.1 u.2.2.2) (G := G' u) (G9 := G9 u) (tl := tl u) hJ ((hmm 21).mpr (Or.inr (Or.inr (Or.inl ⟨rfl, hp⟩)))) (fun k hk hne => ⟨?_, (qo u k hne).symm⟩) (by
                rw [iw_cons, iw_cons, iw_cons, iw_nil, aB_b, aB_a, aB_q, aB_21, htl]
                exact List.Perm.refl _)
              · rw [hG9] at pp
                exact pp
              · have hl := (hmm k).mp hk
                have h3' : k ≠ 100 + 3 * N 1 ∧ k ≠ 101 + 3 * N 1 ∧ k ≠ 102 + 3 * N 1 := by
                  unfold liv at hl
                  omega
                exact aB_o h3'.1 h3'.2.1 h3'.2.2 hne
            · refine List.nodup_append.mpr ⟨hJ, ?_, fun a ha b hb e => ?_⟩
              · simp only [List.nodup_cons, List.mem_cons, List.not_mem_nil, or_false, List.nodup_nil, and_true, not_false_eq_true]
                omega
              · have hl := (hmm a).mp ha
                simp only [List.mem_cons, List.not_mem_nil, or_false] at hb
                unfold liv at hl
                omega
            · rw [List.mem_append, Nb_liv, hmm k]
              simp only [List.mem_cons, List.not_mem_nil, or_false]
              unfold liv
              omega

      · have hg : gth (bin (nI mo) 0 (σ 3 0 - 1)) (bin w 2 200) (if σ 5 0 < 12 then 1 else 0) = 3 := by
          have hlt : ¬ nI (N 1) < 12 := fun q => h4 ((nI_ltI (b := 12) (by omega) (by decide)).mp q)
          rw [hb, hz, h5, if_neg hlt]
          rfl
        have hm := cm_billet_bad l D T om am σ (nI mo) w (by rw [hg]; decide)
        rw [hg] at hm
        have hp : 0 < N 1 := by omega
        exact badJ (js := [0, 6, 7]) hI (by decide) (fun j hj => by simp only [List.mem_cons, List.not_mem_nil, or_false] at hj; unfold liv; omega) (by rw [iw_cons, iw_cons, iw_cons, iw_nil, hG_6 hp0, hG_7 hp]; rfl) (lk_billet_3 l D T ea mi sa _ (ad 16) f (nI mo) w (ch_billet_w l hfl D T ea mi sa (ad 0) ad (ρ 0 0) (ρ 6 0) (ad 20) (N 0) mo hmo (by omega) w k1 k2 (ρ 7 0) (ad 21) (N 1) (by omega) (by omega)) ⟨rfl, rfl⟩) ⟨rfl, rfl, by decide, by decide⟩ (by decide) hm
end BILLET2
