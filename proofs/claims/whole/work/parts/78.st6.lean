/-! ===== steps: blow, test ===== -/
section ST6
variable {l : Launch} {D : va_G} {T : Nat → ClassId} {ea mi : Nat} {sa : Nat → Nat} {om : Nat} {am : Nat → Nat}
variable {C : Nat} {ad : Nat → Nat} {J : List Nat} {N mst bst : Nat → Nat} {ρ σ : Nat → Nat → Int32} {f : Nat → Int64}
variable {i : Nat}
theorem nbr_ne (j : Nat) : nbr j ≠ j := by
  unfold nbr
  split <;> omega
theorem kd_no {z : Int32} (h : z < 0 ∨ 1 < z) : ¬ z = 0 ∧ ¬ z = 1 := by
  refine ⟨fun e => ?_, fun e => ?_⟩
  · subst e
    exact absurd h (by decide)
  · subst e
    exact absurd h (by decide)
theorem kd_or {z : Int32} (h : bin z 0 1 = 1) : z = 0 ∨ z = 1 := by
  obtain ⟨n, hn, rfl⟩ := bin_n1 (v := z) (n := 2) (by decide) h
  have e : n = 0 ∨ n = 1 := by omega
  rcases e with rfl | rfl
  · exact Or.inl nI_0
  · exact Or.inr (by decide)
theorem st_blow (hfl : l.stackTraces = false) (hC : C ≤ 600) (hI : Inv C J N mst bst ρ σ) (x y z w : Int32) : StepR l D T ea mi sa yL_blow wsL_blow 7 [.ref (ad 0), .int x, .int y, .int z, .int w, .ref (ad 16)] yX6_blow wsX6_blow (zrm 2 43) [.ref om, .int x, .int y, .int z, .int w] (fun r => r.toInt64) om am C ad J N mst bst ρ σ f := by
  have hn := hI.1.2.2.2.1
  have h5 := hI.1.2.2.2.2.2.2.1
  rcases bin_01 x 0 (σ 5 0 - 1) with hb | hb
  · have hv := bin_n0 (by omega) (h5 ▸ hb)
    have hm := cm_blow_b1 l D T om am σ x y z w hb
    exact badL hI (lk_blow_1 l D T ea mi sa _ _ f x y z w (ch_blow_b l hfl D T ea mi sa _ ad _ _ _ (N 1) x y z w hv) ⟨rfl, rfl⟩) ⟨rfl, rfl, by decide, by decide⟩ (by decide) hm
  · obtain ⟨i, hi, rfl⟩ := bin_n1 (by omega) (h5 ▸ hb)
    obtain ⟨i12, c1, c2⟩ := liB hI hi
    obtain ⟨⟨mo, hmo, b0, s6, bs⟩, ⟨b3, b456⟩, ⟨b7, w7⟩, ⟨b8, w8⟩, b9, ⟨b10, w10⟩, ⟨b11, w11⟩, ⟨b12, w12⟩, ⟨p9, hp9, b13, s15⟩, hld, hpt, har⟩ := hI.2.2.2.2.2.2.2 i hi
    have hsl := fun j hj => (har j hj).1
    rcases bin_01 y 0 7 with hs | hs
    · have hm := cm_blow_b1s l D T om am σ (nI i) y z w hb hs
      exact bad4 hI hi (lk_blow_1 l D T ea mi sa _ _ f (nI i) y z w (ch_blow_s l hfl D T ea mi sa _ ad _ _ _ _ _ _ _ _ _ _ _ i hi c1 c2 (liF_at hi) y z w (bin_70 hs)) ⟨rfl, rfl⟩) ⟨rfl, rfl, by decide, by decide⟩ (by decide) hm
    · obtain ⟨j, hj, rfl⟩ := bin_71 hs
      have ref2 : ∀ k : Int32, k ≠ 0 → gth 1 (if bin z 0 1 = 0 then 0 else if bin w 1 20 = 0 then 0 else 1) (if σ 14 i = 0 then 1 else 0) = k → ZI l yX6_blow wsX6_blow (zrm 2 43) D T (mW om am T σ) (mW om am T (upS σ 31 (fun _ => k))) [.ref om, .int (nI i), .int (nI j), .int z, .int w] 0 0 0 := by
        intro k hk hg
        have hm := cm_blow_b2 l D T om am σ i j z w i12 hj hb hs (by rw [hg]; exact hk)
        rw [hg] at hm
        exact hm
      rcases bin_01 z 0 1 with hz | hz
      · exact bad4 hI hi (lk_blow_2 l D T ea mi sa _ _ f (nI i) (nI j) z w (ch_blow_a l hfl D T ea mi sa _ ad _ _ _ _ _ _ _ _ _ _ _ i hi c1 c2 (liF_at hi) j hj z w (Or.inl (kd_no (bin0.mp hz)))) ⟨rfl, rfl⟩) ⟨rfl, rfl, by decide, by decide⟩ (by decide) (ref2 2 (by decide) (by rw [hz]; rfl))
      · rcases bin_01 w 1 20 with hw1 | hw1
        · exact bad4 hI hi (lk_blow_2 l D T ea mi sa _ _ f (nI i) (nI j) z w (ch_blow_a l hfl D T ea mi sa _ ad _ _ _ _ _ _ _ _ _ _ _ i hi c1 c2 (liF_at hi) j hj z w (Or.inr (bin0.mp hw1))) ⟨rfl, rfl⟩) ⟨rfl, rfl, by decide, by decide⟩ (by decide) (ref2 2 (by decide) (by rw [hz, hw1]; rfl))
        · obtain ⟨w1, w2⟩ := bin_k1 hw1
          obtain ⟨nw, nw1, nw2, nw3⟩ := nat_of (hi := 20) (by decide) w1 w2
          have hfo : ∃ n : Nat, n ≤ 20 ∧ 1 ≤ n ∧ w = nI n := ⟨nw, nw2, nw1, nw3⟩
          by_cases h12 : ρ (100 + 3 * i) 12 = 0
          · rcases kd_or hz with rfl | rfl
            · skip
              by_cases hc : ρ (100 + 3 * i) 8 < 700
              · have hm := cm_blow_crack0 l D T om am σ i j w i12 hj hb hs hw1 (by rw [← b12]; exact h12) (by rw [← b8]; exact hc)
                exact okB hI hi (lk_blow l D T ea mi sa _ _ f (nI i) (nI j) 0 w (ch_blow_crack0 l D T ea mi sa _ ad _ _ _ _ _ _ _ _ _ _ _ _ _ _ i hi c1 c2 (liF_at hi) j hj w w1 w2 h12 hc) ⟨rfl, rfl⟩ (fun _ _ _ => rfl) (fun _ => Nat.le_refl _)) ⟨rfl, rfl, by decide, by decide⟩ hm rfl
                  (fun k h1 h2 => (upS_ne _ _ (show k ≠ 31 by omega)).trans (upS_ne _ _ (show k ≠ 14 by omega)))
                          (fun k i' hk hne => by
                              by_cases e14 : k = 14
                              · subst e14; exact upd_ne _ _ hne
                              exact congrFun ((upS_ne _ _ (show k ≠ 31 by omega)).trans (upS_ne _ _ (show k ≠ 14 by omega))) i'
                          )
                          (fun k i' j7 hk hne hj7 => by
                              exact congrFun ((upS_ne _ _ (show k ≠ 31 by omega)).trans (upS_ne _ _ (show k ≠ 14 by omega))) (8 * i' + j7)
                          )
                  ⟨⟨mo, hmo, b0, s6, bs⟩, ⟨b3, b456⟩, ⟨b7, w7⟩, ⟨b8, w8⟩, b9, ⟨b10, w10⟩, ⟨b11, bnd_le (Nat.le_succ C) w11⟩, ⟨(upd_same _ _ _).symm, Or.inr rfl⟩, ⟨p9, hp9, b13, s15⟩, hld, hpt, fun j hj => ⟨(har j hj).1, nbd_le (by omega) (har j hj).2⟩⟩
              · have hm := cm_blow_ok0 l D T om am σ i j w i12 hj hb hs hw1 (by rw [← b12]; exact h12) (ρ (100 + 3 * i) 7) (ρ (100 + 3 * i) 8) (ρ (100 + 3 * i) 10) (by rw [← b8]; exact hc) b7.symm b8.symm b10.symm
                rw [← (har j hj).1] at hm
                exact okB hI hi (lk_blow l D T ea mi sa _ _ f (nI i) (nI j) 0 w (ch_blow_ok0 l D T ea mi sa _ ad _ _ _ _ _ _ _ _ _ _ _ _ _ _ i hi c1 c2 (liF_at hi) j hj w w1 w2 h12 hc) ⟨rfl, rfl⟩ (fun _ _ _ => rfl) (fun _ => Nat.le_refl _)) ⟨rfl, rfl, by decide, by decide⟩ hm rfl
                  (fun k h1 h2 => (upS_ne _ _ (show k ≠ 31 by omega)).trans ((upS_ne _ _ (show k ≠ 13 by omega)).trans ((upS_ne _ _ (show k ≠ 11 by omega)).trans ((upS_ne _ _ (show k ≠ 10 by omega)).trans ((upS_ne _ _ (show k ≠ 9 by omega)).trans (upS_ne _ _ (show k ≠ 7 by omega)))))))
                          (fun k i' hk hne => by
                              by_cases e13 : k = 13
                              · subst e13; exact upd_ne _ _ hne
                              by_cases e11 : k = 11
                              · subst e11; exact upd_ne _ _ hne
                              by_cases e10 : k = 10
                              · subst e10; exact upd_ne _ _ hne
                              by_cases e9 : k = 9
                              · subst e9; exact upd_ne _ _ hne
                              exact congrFun ((upS_ne _ _ (show k ≠ 31 by omega)).trans ((upS_ne _ _ (show k ≠ 13 by omega)).trans ((upS_ne _ _ (show k ≠ 11 by omega)).trans ((upS_ne _ _ (show k ≠ 10 by omega)).trans ((upS_ne _ _ (show k ≠ 9 by omega)).trans (upS_ne _ _ (show k ≠ 7 by omega))))))) i'
                          )
                          (fun k i' j7 hk hne hj7 => by
                              by_cases e7 : k = 7
                              · subst e7; exact blA_o hj (nbr_lt hj) (by omega)
                              exact congrFun ((upS_ne _ _ (show k ≠ 31 by omega)).trans ((upS_ne _ _ (show k ≠ 13 by omega)).trans ((upS_ne _ _ (show k ≠ 11 by omega)).trans ((upS_ne _ _ (show k ≠ 10 by omega)).trans ((upS_ne _ _ (show k ≠ 9 by omega)).trans (upS_ne _ _ (show k ≠ 7 by omega))))))) (8 * i' + j7)
                          )
                  ⟨⟨mo, hmo, b0, s6, bs⟩, ⟨b3, b456⟩, ⟨(upd_same _ _ _).symm, nbd_clS w7⟩, ⟨(upd_same _ _ _).symm, nbd_wrm (nbd_clS w7) w8⟩, b9, ⟨((upd_ne _ _ (show (10 : Nat) ≠ 11 by decide)).trans (upd_same _ _ _)).trans (upd_same (σ 11) i _).symm, (by rw [upd_ne _ _ (show (10 : Nat) ≠ 11 by decide), upd_same]; exact grv_bnd w10 hfo)⟩, ⟨(by
                              show ρ (100 + 3 * i) 11 + (lapv (blA (ρ (101 + 3 * i)) j (nbr j) (imin w (ρ (101 + 3 * i) j - 1)) j) (blA (ρ (101 + 3 * i)) j (nbr j) (imin w (ρ (101 + 3 * i) j - 1)) (nbr j))) = upd (σ 13) i (σ 13 i + (lapv (blA (σ 7) (8 * i + j) (8 * i + nbr j) (imin w (ρ (101 + 3 * i) j - 1)) (8 * i + j)) (blA (σ 7) (8 * i + j) (8 * i + nbr j) (imin w (ρ (101 + 3 * i) j - 1)) (8 * i + nbr j)))) i
                              rw [upd_same, b11, blA_sl hj (nbr_lt hj) hsl j hj, blA_sl hj (nbr_lt hj) hsl (nbr j) (nbr_lt hj)]), lap_bnd w11 _ _⟩, ⟨b12, w12⟩, ⟨p9, hp9, b13, s15⟩, hld, hpt, fun j9 hj9 => ⟨blA_sl hj (nbr_lt hj) hsl j9 hj9, nbd_le (by omega) (blA_nbd (B := 400 + 20 * C) (by omega) hj (nbr_lt hj) (nbr_ne j) (fun j hj => (har j hj).2) hfo rfl j9 hj9)⟩⟩
            · skip
              by_cases hc : ρ (100 + 3 * i) 8 < 700
              · have hm := cm_blow_crack1 l D T om am σ i j w i12 hj hb hs hw1 (by rw [← b12]; exact h12) (by rw [← b8]; exact hc)
                exact okB hI hi (lk_blow l D T ea mi sa _ _ f (nI i) (nI j) 1 w (ch_blow_crack1 l D T ea mi sa _ ad _ _ _ _ _ _ _ _ _ _ _ _ _ _ i hi c1 c2 (liF_at hi) j hj w w1 w2 h12 hc) ⟨rfl, rfl⟩ (fun _ _ _ => rfl) (fun _ => Nat.le_refl _)) ⟨rfl, rfl, by decide, by decide⟩ hm rfl
                  (fun k h1 h2 => (upS_ne _ _ (show k ≠ 31 by omega)).trans (upS_ne _ _ (show k ≠ 14 by omega)))
                          (fun k i' hk hne => by
                              by_cases e14 : k = 14
                              · subst e14; exact upd_ne _ _ hne
                              exact congrFun ((upS_ne _ _ (show k ≠ 31 by omega)).trans (upS_ne _ _ (show k ≠ 14 by omega))) i'
                          )
                          (fun k i' j7 hk hne hj7 => by
                              exact congrFun ((upS_ne _ _ (show k ≠ 31 by omega)).trans (upS_ne _ _ (show k ≠ 14 by omega))) (8 * i' + j7)
                          )
                  ⟨⟨mo, hmo, b0, s6, bs⟩, ⟨b3, b456⟩, ⟨b7, w7⟩, ⟨b8, w8⟩, b9, ⟨b10, w10⟩, ⟨b11, bnd_le (Nat.le_succ C) w11⟩, ⟨(upd_same _ _ _).symm, Or.inr rfl⟩, ⟨p9, hp9, b13, s15⟩, hld, hpt, fun j hj => ⟨(har j hj).1, nbd_le (by omega) (har j hj).2⟩⟩
              · have hm := cm_blow_ok1 l D T om am σ i j w i12 hj hb hs hw1 (by rw [← b12]; exact h12) (ρ (100 + 3 * i) 7) (ρ (100 + 3 * i) 8) (ρ (100 + 3 * i) 10) (by rw [← b8]; exact hc) b7.symm b8.symm b10.symm
                rw [← (har (nbr j) (nbr_lt hj)).1] at hm
                exact okB hI hi (lk_blow l D T ea mi sa _ _ f (nI i) (nI j) 1 w (ch_blow_ok1 l D T ea mi sa _ ad _ _ _ _ _ _ _ _ _ _ _ _ _ _ i hi c1 c2 (liF_at hi) j hj w w1 w2 h12 hc) ⟨rfl, rfl⟩ (fun _ _ _ => rfl) (fun _ => Nat.le_refl _)) ⟨rfl, rfl, by decide, by decide⟩ hm rfl
                  (fun k h1 h2 => (upS_ne _ _ (show k ≠ 31 by omega)).trans ((upS_ne _ _ (show k ≠ 13 by omega)).trans ((upS_ne _ _ (show k ≠ 11 by omega)).trans ((upS_ne _ _ (show k ≠ 10 by omega)).trans ((upS_ne _ _ (show k ≠ 9 by omega)).trans (upS_ne _ _ (show k ≠ 7 by omega)))))))
                          (fun k i' hk hne => by
                              by_cases e13 : k = 13
                              · subst e13; exact upd_ne _ _ hne
                              by_cases e11 : k = 11
                              · subst e11; exact upd_ne _ _ hne
                              by_cases e10 : k = 10
                              · subst e10; exact upd_ne _ _ hne
                              by_cases e9 : k = 9
                              · subst e9; exact upd_ne _ _ hne
                              exact congrFun ((upS_ne _ _ (show k ≠ 31 by omega)).trans ((upS_ne _ _ (show k ≠ 13 by omega)).trans ((upS_ne _ _ (show k ≠ 11 by omega)).trans ((upS_ne _ _ (show k ≠ 10 by omega)).trans ((upS_ne _ _ (show k ≠ 9 by omega)).trans (upS_ne _ _ (show k ≠ 7 by omega))))))) i'
                          )
                          (fun k i' j7 hk hne hj7 => by
                              by_cases e7 : k = 7
                              · subst e7; exact blA_o (nbr_lt hj) hj (by omega)
                              exact congrFun ((upS_ne _ _ (show k ≠ 31 by omega)).trans ((upS_ne _ _ (show k ≠ 13 by omega)).trans ((upS_ne _ _ (show k ≠ 11 by omega)).trans ((upS_ne _ _ (show k ≠ 10 by omega)).trans ((upS_ne _ _ (show k ≠ 9 by omega)).trans (upS_ne _ _ (show k ≠ 7 by omega))))))) (8 * i' + j7)
                          )
                  ⟨⟨mo, hmo, b0, s6, bs⟩, ⟨b3, b456⟩, ⟨(upd_same _ _ _).symm, nbd_clS w7⟩, ⟨(upd_same _ _ _).symm, nbd_wrm (nbd_clS w7) w8⟩, b9, ⟨((upd_ne _ _ (show (10 : Nat) ≠ 11 by decide)).trans (upd_same _ _ _)).trans (upd_same (σ 11) i _).symm, (by rw [upd_ne _ _ (show (10 : Nat) ≠ 11 by decide), upd_same]; exact grv_bnd w10 hfo)⟩, ⟨(by
                              show ρ (100 + 3 * i) 11 + (lapv (blA (ρ (101 + 3 * i)) (nbr j) j (imin w (ρ (101 + 3 * i) (nbr j) - 1)) (nbr j)) (blA (ρ (101 + 3 * i)) (nbr j) j (imin w (ρ (101 + 3 * i) (nbr j) - 1)) j)) = upd (σ 13) i (σ 13 i + (lapv (blA (σ 7) (8 * i + nbr j) (8 * i + j) (imin w (ρ (101 + 3 * i) (nbr j) - 1)) (8 * i + j)) (blA (σ 7) (8 * i + nbr j) (8 * i + j) (imin w (ρ (101 + 3 * i) (nbr j) - 1)) (8 * i + nbr j)))) i
                              rw [upd_same, b11, lapv_comm, blA_sl (nbr_lt hj) hj hsl j hj, blA_sl (nbr_lt hj) hj hsl (nbr j) (nbr_lt hj)]), lap_bnd w11 _ _⟩, ⟨b12, w12⟩, ⟨p9, hp9, b13, s15⟩, hld, hpt, fun j9 hj9 => ⟨blA_sl (nbr_lt hj) hj hsl j9 hj9, nbd_le (by omega) (blA_nbd (B := 400 + 20 * C) (by omega) (nbr_lt hj) hj (nbr_ne j).symm (fun j hj => (har j hj).2) hfo rfl j9 hj9)⟩⟩
          · exact bad4 hI hi (lk_blow_3 l D T ea mi sa _ _ f (nI i) (nI j) z w (ch_blow_c l hfl D T ea mi sa _ ad _ _ _ _ _ _ _ _ _ _ _ i hi c1 c2 (liF_at hi) j hj z w w1 w2 (kd_or hz) h12) ⟨rfl, rfl⟩) ⟨rfl, rfl, by decide, by decide⟩ (by decide) (ref2 3 (by decide) (by rw [hz, hw1, if_neg (show ¬ σ 14 i = 0 by rw [← b12]; exact h12)]; rfl))
theorem Inv_L {C : Nat} {ρ' σ' : Nat → Nat → Int32} (hI : Inv C J N mst bst ρ σ) (hr : ∀ j, j ≠ 9 → ρ' j = ρ j) (hs : ∀ k, k < 29 → k ≠ 25 → σ' k = σ k) (hL : LIv N ρ' σ') : Inv C J N mst bst ρ' σ' := by
  obtain ⟨h1, h2, h3, h4, h5, h6, h7, h8⟩ := hI
  have hN := h1.2.2.2.1
  refine ⟨?_, ?_, ?_, hL, ?_, ?_, ?_, fun i hi => ?_⟩
  · unfold CIv at h1 ⊢
    rw [hs 3 (by decide) (by decide), hs 5 (by decide) (by decide), hs 21 (by decide) (by decide)]
    exact h1
  · unfold SIv at h2 ⊢
    rw [hs 0 (by decide) (by decide), hs 1 (by decide) (by decide), hs 2 (by decide) (by decide)]
    exact fun s hs9 => by rw [hr (2 + s) (by omega)]; exact h2 s hs9
  · unfold MIv at h3 ⊢
    rw [hs 4 (by decide) (by decide)]
    exact h3
  · unfold ZIv at h5 ⊢
    rw [hs 12 (by decide) (by decide), hs 13 (by decide) (by decide), hs 14 (by decide) (by decide), hs 17 (by decide) (by decide), hs 18 (by decide) (by decide), hs 20 (by decide) (by decide), hs 8 (by decide) (by decide)]
    exact h5
  · unfold DIv at h6 ⊢
    rw [hs 22 (by decide) (by decide), hs 23 (by decide) (by decide)]
    exact fun d hd => by rw [hr (200 + 2 * d) (by omega), hr (201 + 2 * d) (by omega)]; exact h6 d hd
  · unfold JIv at h7 ⊢
    rw [hs 26 (by decide) (by decide), hs 27 (by decide) (by decide), hs 28 (by decide) (by decide), hr 14 (by omega), hr 15 (by omega)]
    exact h7
  · rw [hr (100 + 3 * i) (by omega), hr (101 + 3 * i) (by omega), hr (102 + 3 * i) (by omega)]
    exact BIv_sig (h8 i hi) (fun k hk => by rw [hs k (by omega) (by omega)]) (fun k j hk hj => by rw [hs k (by omega) (by omega)])
theorem or_0 {a b : Int32} : (a ||| b = 0) ↔ a = 0 ∧ b = 0 := by
  constructor
  · intro h
    have h1 : a.toBitVec ||| b.toBitVec = 0#32 := by
      have := congrArg Int32.toBitVec h
      simpa using this
    have h2 : a.toBitVec = 0#32 ∧ b.toBitVec = 0#32 := by
      constructor
      · apply BitVec.eq_of_getLsbD_eq
        intro j hj
        have := congrArg (fun z => z.getLsbD j) h1
        simp only [BitVec.getLsbD_or, BitVec.getLsbD_zero, Bool.or_eq_false_iff] at this
        rw [this.1]
        simp
      · apply BitVec.eq_of_getLsbD_eq
        intro j hj
        have := congrArg (fun z => z.getLsbD j) h1
        simp only [BitVec.getLsbD_or, BitVec.getLsbD_zero, Bool.or_eq_false_iff] at this
        rw [this.2]
        simp
    exact ⟨Int32.toBitVec_inj.mp (by simpa using h2.1), Int32.toBitVec_inj.mp (by simpa using h2.2)⟩
  · rintro ⟨rfl, rfl⟩
    rfl
theorem or_and (a b c : Int32) : (a ||| b) &&& c = (a &&& c) ||| (b &&& c) := by
  apply Int32.toBitVec_inj.mp
  simp only [Int32.toBitVec_and, Int32.toBitVec_or]
  apply BitVec.eq_of_getLsbD_eq
  intro j hj
  simp only [BitVec.getLsbD_and, BitVec.getLsbD_or]
  cases a.toBitVec.getLsbD j <;> cases b.toBitVec.getLsbD j <;> cases c.toBitVec.getLsbD j <;> rfl
theorem bits2 : ∀ m, m < 20 → ∀ n, n < 20 → (((1 : Int32) <<< (nI m &&& 31)) &&& ((1 : Int32) <<< (nI n &&& 31)) = 0 ↔ m ≠ n) := by decide +kernel
theorem st_test (hfl : l.stackTraces = false) (hC : C ≤ 600) (hI : Inv C J N mst bst ρ σ) (x : Int32) : StepR l D T ea mi sa yL_test wsL_test 4 [.ref (ad 0), .int x, .ref (ad 16)] yX6_test wsX6_test (zrm 2 46) [.ref om, .int x] (fun r => r.toInt64) om am C ad J N mst bst ρ σ f := by
  have hn := hI.1.2.2.2.1
  have h5 := hI.1.2.2.2.2.2.2.1
  rcases bin_01 x 0 (σ 5 0 - 1) with hb | hb
  · have hv := bin_n0 (by omega) (h5 ▸ hb)
    have hm := cm_test_b1 l D T om am σ x hb
    exact badL hI (lk_test_1 l D T ea mi sa _ _ f x (ch_test_b l hfl D T ea mi sa _ ad _ _ _ (N 1) x hv) ⟨rfl, rfl⟩) ⟨rfl, rfl, by decide, by decide⟩ (by decide) hm
  · obtain ⟨i, hi, rfl⟩ := bin_n1 (by omega) (h5 ▸ hb)
    obtain ⟨i12, c1, c2⟩ := liB hI hi
    obtain ⟨⟨mo, hmo, b0, s6, bs⟩, ⟨b3, b456⟩, ⟨b7, w7⟩, ⟨b8, w8⟩, b9, ⟨b10, w10⟩, ⟨b11, w11⟩, ⟨b12, w12⟩, ⟨p9, hp9, b13, s15⟩, hld, hpt, har⟩ := hI.2.2.2.2.2.2.2 i hi
    obtain ⟨hN3, hs24, hlo, hbits⟩ := hI.2.2.2.1
    have hm20 : mo < 20 := Nat.lt_of_lt_of_le hmo hI.1.2.2.1
    rcases id hld with ⟨h1, h2, h3, h4⟩ | ⟨ld, h1, h2, h3, h4, h6⟩
    · have hg : gth 1 (if σ 16 i = -1 then 0 else 1) 1 = 2 := by rw [if_pos h2]; rfl
      have hm := cm_test_b2 l D T om am σ i i12 hb (by rw [hg]; decide)
      rw [hg] at hm
      exact badT hI hi (lk_test_2 l D T ea mi sa _ _ f (nI i) (ch_test_l l hfl D T ea mi sa _ ad _ _ _ _ _ _ _ _ _ _ _ i hi c1 c2 (liF_at hi) (ρ 9) (by rw [h1]; rfl)) ⟨rfl, rfl⟩) ⟨rfl, rfl, by decide, by decide⟩ (by decide) hm
    · have hm := cm_test_ok l D T om am σ i ld mo i12 hb (by omega) hm20 h3 s6
      rw [← ld_sf (κ := ρ (102 + 3 * i)) hN3 hld] at hm
      have I1 : Inv (C + 1) J N mst bst (upB ρ i (upd (ρ (100 + 3 * i)) 17 0) (ρ (101 + 3 * i)) (ρ (102 + 3 * i))) (upS σ 18 (upd (σ 18) i 1)) := by
        refine Inv_bil (Nat.le_succ C) hi hI (fun j h1 h2 h3 => upB_o h1 h2 h3)
                (fun k h1 h2 => upS_ne _ _ (show k ≠ 18 by omega))
                (fun k i' hk hne => by
                    by_cases e18 : k = 18
                    · subst e18; exact upd_ne _ _ hne
                    exact congrFun (upS_ne _ _ (show k ≠ 18 by omega)) i'
                )
                (fun k i' j7 hk hne hj7 => by
                    exact congrFun (upS_ne _ _ (show k ≠ 18 by omega)) (8 * i' + j7)
                ) ?_
        rw [upB_b, upB_a, upB_q]
        exact ⟨⟨mo, hmo, b0, s6, bs⟩, ⟨b3, b456⟩, ⟨b7, w7⟩, ⟨b8, w8⟩, b9, ⟨b10, w10⟩, ⟨b11, bnd_le (Nat.le_succ C) w11⟩, ⟨b12, w12⟩, ⟨p9, hp9, b13, s15⟩, hld, Or.inr ⟨rfl, upd_same _ _ _⟩, fun j hj => ⟨(har j hj).1, nbd_le (by omega) (har j hj).2⟩⟩
      have hu : ∀ j, j ≠ 9 → (upR (upB ρ i (upd (ρ (100 + 3 * i)) 17 0) (ρ (101 + 3 * i)) (ρ (102 + 3 * i))) 9 (upd (ρ 9) ld (ρ 9 ld ||| ((1 : Int32) <<< (ρ (100 + 3 * i) 0 &&& 31))))) j = upB ρ i (upd (ρ (100 + 3 * i)) 17 0) (ρ (101 + 3 * i)) (ρ (102 + 3 * i)) j := fun j hj => upR_ne _ _ hj
      have hb4 := bst4 hI hi
      refine ok8 (rm := lkR (zrm 4 85) 3 0 0) (ρ' := upR (upB ρ i (upd (ρ (100 + 3 * i)) 17 0) (ρ (101 + 3 * i)) (ρ (102 + 3 * i))) 9 (upd (ρ 9) ld (ρ 9 ld ||| ((1 : Int32) <<< (ρ (100 + 3 * i) 0 &&& 31))))) hI hi ?_ ⟨rfl, rfl, by decide, by decide⟩ hm rfl (fun j _ _ _ a1 a2 a3 _ a4 => (hu j a4).trans (upB_o a1 a2 a3)) ?_
      · have e : B8 ad T N bst (upR (upB ρ i (upd (ρ (100 + 3 * i)) 17 0) (ρ (101 + 3 * i)) (ρ (102 + 3 * i))) 9 (upd (ρ 9) ld (ρ 9 ld ||| ((1 : Int32) <<< (ρ (100 + 3 * i) 0 &&& 31))))) i = E7 ad T N bst ρ i (upd (ρ (100 + 3 * i)) 17 0) (ρ (101 + 3 * i)) (ρ (102 + 3 * i)) ++ [(ad 9, .inl (T 0, 20, .inl (upd (ρ 9) ld (ρ 9 ld ||| ((1 : Int32) <<< (ρ (100 + 3 * i) 0 &&& 31))))))] := by
          rw [← E7_up hb4]
          unfold B8 B7 B4
          rw [upR_at, hu 0 (by decide), hu 7 (by decide), hu (100 + 3 * i) (by omega), hu (101 + 3 * i) (by omega), hu (102 + 3 * i) (by omega), hu (2 + bst i) (by omega)]
        rw [e]
        exact lk_test l D T ea mi sa _ _ f (nI i) (zI_H (ch_test l D T _ ad _ _ _ _ _ _ _ _ _ _ _ _ _ _ i hi c1 c2 (liF_at hi) (ρ 9) ld (by omega) h2 (by rw [isl1 (show ld < 20 by omega) (Nat.le_refl 20)]; decide))) ⟨rfl, rfl⟩ (fun _ _ _ => rfl) (fun _ => Nat.le_refl _)
      · refine Inv_L I1 hu (fun k h1 h2 => (upS_ne _ _ (show k ≠ 31 by omega)).trans (upS_ne _ _ h2)) ⟨hN3, hs24, ?_, fun ld9 h9 m9 hm9 => ?_⟩
        · rw [hu 0 (by decide), upB_o (k := 0) (by omega) (by omega) (by omega)]
          exact hlo
        · rw [upR_at, b0]
          show (upd (ρ 9) ld (ρ 9 ld ||| ((1 : Int32) <<< (nI mo &&& 31))) ld9 &&& ((1 : Int32) <<< (nI m9 &&& 31)) = 0 ↔ upd (σ 25) (20 * ld + mo) 1 (20 * ld9 + m9) = 0)
          by_cases e : ld9 = ld
          · subst e
            rw [upd_same, or_and, or_0]
            by_cases e2 : m9 = mo
            · subst e2
              rw [upd_same]
              exact ⟨fun q => absurd q.2 (fun z => (bits2 m9 hm9 m9 hm9).mp z rfl), fun q => absurd q (by decide)⟩
            · rw [upd_ne _ _ (show 20 * ld9 + m9 ≠ 20 * ld9 + mo by omega), ← hbits ld9 h9 m9 hm9]
              exact ⟨fun q => q.1, fun q => ⟨q, (bits2 mo hm20 m9 hm9).mpr (fun z => e2 z.symm)⟩⟩
          · rw [upd_ne _ _ e, upd_ne _ _ (show 20 * ld9 + m9 ≠ 20 * ld + mo by omega)]
            exact hbits ld9 h9 m9 hm9
end ST6
