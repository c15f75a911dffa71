/-! ===== steps: a billet is worked ===== -/
theorem bin_nat {v : Int32} {lo hi : Nat} (h1 : lo < 2 ^ 31) (h2 : hi < 2 ^ 31) (h : bin v (nI lo) (nI hi) = 1) : ∃ n, lo ≤ n ∧ n ≤ hi ∧ v = nI n := by
  obtain ⟨a, b⟩ := bin1.mp h
  have h0 : ¬ v < 0 := fun q => a (Int32.lt_of_lt_of_le q (Int32.not_lt.mp (fun z => nI_pos h1 z)))
  obtain ⟨n, hn, rfl⟩ := zI_of h0
  exact ⟨n, (nI_leI h1 hn).mp (Int32.not_lt.mp a), (nI_leI hn h2).mp (Int32.not_lt.mp b), rfl⟩
section ST48
variable {l : Launch} {D : va_G} {T : Nat → ClassId} {ea mi : Nat} {sa : Nat → Nat} {om : Nat} {am : Nat → Nat}
variable {C : Nat} {ad : Nat → Nat} {J : List Nat} {N mst bst : Nat → Nat} {ρ σ : Nat → Nat → Int32} {f : Nat → Int64}
variable {cy : MethodName} {cws : List Cond} {nL : Nat} {las : List Value} {my : MethodName} {mws : List Cond} {mrm : Room} {mas : List Value} {cv : Int32 → Int64} {rm : Room} {k rv : Int32} {i : Nat}
theorem okB8 (hI : Inv C J N mst bst ρ σ) (hi : i < N 1) {β α κ : Nat → Int32} (hw : ZIH l cy cws rm (zX ea mi sa) D T (S := Unit) (ouW (ad 16) T f :: B8 ad T N bst ρ i) (fun _ => (ad 16, .inl (T 2, 1, .inr (.inl (vp_updL f (0 : Int32).toNatClampNeg (cv rv))))) :: (E7 ad T N bst ρ i β α κ ++ [(ad 9, .inl (T 0, 20, .inl (ρ 9)))])) las 0 0 0)
    (hrm : rm.cells = 0 ∧ rm.slots = 0 ∧ rm.frames + 1 ≤ 11 ∧ 8 + (nL + 11) + rm.locals ≤ 404) {σ' : Nat → Nat → Int32} (hm : ZI l my mws mrm D T (mW om am T σ) (mW om am T σ') mas rv 0 0) (h31 : σ' 31 0 = 0)
    (hs : ∀ k, k < 29 → k < 6 ∨ 20 < k → σ' k = σ k) (hs1 : ∀ k i', k = 6 ∨ (9 ≤ k ∧ k ≤ 20) → i' ≠ i → σ' k i' = σ k i') (hs2 : ∀ k i' j, k = 7 ∨ k = 8 → i' ≠ i → j < 8 → σ' k (8 * i' + j) = σ k (8 * i' + j))
    (hB : BIv (C + 1) N mst (bst i) β α κ σ' i) : StepR l D T ea mi sa cy cws nL las my mws mrm mas cv om am C ad J N mst bst ρ σ f := by
  have hb := bst4 hI hi
  have e : B8 ad T N bst (upB ρ i β α κ) i = E7 ad T N bst ρ i β α κ ++ [(ad 9, .inl (T 0, 20, .inl (ρ 9)))] := by
    rw [← E7_up hb]
    unfold B8
    rw [upB_o (k := 9) (by omega) (by omega) (by omega)]
  rw [← e] at hw
  refine ok8 hI hi hw hrm hm h31 (fun j _ _ _ h1 h2 h3 _ _ => upB_o h1 h2 h3) ?_
  exact Inv_bil (Nat.le_succ C) hi hI (fun j h1 h2 h3 => upB_o h1 h2 h3) hs hs1 hs2 (by rw [upB_b, upB_a, upB_q]; exact hB)
end ST48
section ST4
variable {l : Launch} {D : va_G} {T : Nat → ClassId} {ea mi : Nat} {sa : Nat → Nat} {om : Nat} {am : Nat → Nat}
variable {C : Nat} {ad : Nat → Nat} {J : List Nat} {N mst bst : Nat → Nat} {ρ σ : Nat → Nat → Int32} {f : Nat → Int64}
variable {i : Nat}
theorem st_cool (hfl : l.stackTraces = false) (hC : C ≤ 600) (hI : Inv C J N mst bst ρ σ) (x y : Int32) : StepR l D T ea mi sa yL_cool wsL_cool 5 [.ref (ad 0), .int x, .int y, .ref (ad 16)] yX6_cool wsX6_cool (zrm 2 43) [.ref om, .int x, .int y] (fun r => r.toInt64) om am C ad J N mst bst ρ σ f := by
  have hn := hI.1.2.2.2.1
  have h5 := hI.1.2.2.2.2.2.2.1
  rcases bin_01 x 0 (σ 5 0 - 1) with hb | hb
  · have hv := bin_n0 (by omega) (h5 ▸ hb)
    have hg : gth (bin x 0 (σ 5 0 - 1)) (bin y 1 200) 1 = 1 := by rw [hb]; rfl
    have hm := cm_cool_bad l D T om am σ x y (by rw [hg]; decide)
    rw [hg] at hm
    exact badL hI (lk_cool_1 l D T ea mi sa _ _ f x y (ch_cool_b l hfl D T ea mi sa _ ad _ _ _ (N 1) x y hv) ⟨rfl, rfl⟩) ⟨rfl, rfl, by decide, by decide⟩ (by decide) hm
  · obtain ⟨i, hi, rfl⟩ := bin_n1 (by omega) (h5 ▸ hb)
    obtain ⟨i12, c1, c2⟩ := liB hI hi
    obtain ⟨⟨mo, hmo, b0, s6, bs⟩, ⟨b3, b456⟩, ⟨b7, w7⟩, ⟨b8, w8⟩, b9, ⟨b10, w10⟩, ⟨b11, w11⟩, ⟨b12, w12⟩, ⟨p9, hp9, b13, s15⟩, hld, hpt, har⟩ := hI.2.2.2.2.2.2.2 i hi
    rcases bin_01 y 1 200 with hs | hs
    · have hg : gth (bin (nI i) 0 (σ 5 0 - 1)) (bin y 1 200) 1 = 2 := by rw [hb, hs]; rfl
      have hm := cm_cool_bad l D T om am σ (nI i) y (by rw [hg]; decide)
      rw [hg] at hm
      exact bad4 hI hi (lk_cool_2 l D T ea mi sa _ _ f (nI i) y (ch_cool_m l hfl D T ea mi sa _ ad _ _ _ _ _ _ _ _ _ _ _ i hi c1 c2 (liF_at hi) y (bin0.mp hs)) ⟨rfl, rfl⟩) ⟨rfl, rfl, by decide, by decide⟩ (by decide) hm
    · obtain ⟨n, n1, n2, rfl⟩ := bin_nat (lo := 1) (hi := 200) (by decide) (by decide) hs
      have hm := cm_cool_ok l D T om am σ i n (ρ (100 + 3 * i) 7) (ρ (100 + 3 * i) 8) i12 n2 hb hs b7.symm b8.symm
      exact okB hI hi (lk_cool l D T ea mi sa _ _ f (nI i) (nI n) (zI_H (ch_cool l D T _ ad _ _ _ _ _ _ _ _ _ _ _ _ _ _ i hi c1 c2 (liF_at hi) n n1 n2)) ⟨rfl, rfl⟩ (fun _ _ _ => rfl) (fun _ => Nat.le_refl _)) ⟨rfl, rfl, by decide, by decide⟩ hm rfl
        (fun k h1 h2 => (upS_ne _ _ (show k ≠ 31 by omega)).trans ((upS_ne _ _ (show k ≠ 10 by omega)).trans (upS_ne _ _ (show k ≠ 9 by omega))))
                (fun k i' hk hne => by
                    by_cases e10 : k = 10
                    · subst e10; exact upd_ne _ _ hne
                    by_cases e9 : k = 9
                    · subst e9; exact upd_ne _ _ hne
                    exact congrFun ((upS_ne _ _ (show k ≠ 31 by omega)).trans ((upS_ne _ _ (show k ≠ 10 by omega)).trans (upS_ne _ _ (show k ≠ 9 by omega)))) i'
                )
                (fun k i' j7 hk hne hj7 => by
                    exact congrFun ((upS_ne _ _ (show k ≠ 31 by omega)).trans ((upS_ne _ _ (show k ≠ 10 by omega)).trans (upS_ne _ _ (show k ≠ 9 by omega)))) (8 * i' + j7)
                )
        ⟨⟨mo, hmo, b0, s6, bs⟩, ⟨b3, b456⟩, ⟨(upd_same _ _ _).symm, nbd_cSk w7 n⟩, ⟨(upd_same _ _ _).symm, nbd_cCo w7 w8 n⟩, b9, ⟨b10, w10⟩, ⟨b11, bnd_le (Nat.le_succ C) w11⟩, ⟨b12, w12⟩, ⟨p9, hp9, b13, s15⟩, hld, hpt, fun j hj => ⟨(har j hj).1, nbd_le (by omega) (har j hj).2⟩⟩
theorem tmp_max {t s : Int32} {n : Nat} (h : tmpR t s) (h1 : 100 ≤ n) (h2 : n ≤ 700) : tmpR (if t < nI n then nI n else t) (if s < nI n then nI n else s) := by
  rcases h with ⟨a, b⟩ | ⟨m, m1, m2, a, b⟩
  · subst a; subst b
    rw [if_pos (show (0 : Int32) < nI n from by rw [← nI_0]; exact (nI_ltI (by decide) (by omega)).mpr (by omega))]
    refine Or.inr ⟨n, h1, h2, rfl, ?_⟩
    by_cases e : n = 100
    · subst e; rfl
    · rw [if_pos (show (100 : Int32) < nI n from (nI_ltI (a := 100) (by decide) (by omega)).mpr (by omega))]
  · subst a; subst b
    by_cases e : m < n
    · rw [if_pos ((nI_ltI (by omega) (by omega)).mpr e)]
      exact Or.inr ⟨n, h1, h2, rfl, rfl⟩
    · rw [if_neg (fun q => e ((nI_ltI (by omega) (by omega)).mp q))]
      exact Or.inr ⟨m, m1, m2, rfl, rfl⟩
theorem st_temper (hfl : l.stackTraces = false) (hC : C ≤ 600) (hI : Inv C J N mst bst ρ σ) (x y : Int32) : StepR l D T ea mi sa yL_temper wsL_temper 5 [.ref (ad 0), .int x, .int y, .ref (ad 16)] yX6_temper wsX6_temper (zrm 2 46) [.ref om, .int x, .int y] (fun r => r.toInt64) om am C ad J N mst bst ρ σ f := by
  have hn := hI.1.2.2.2.1
  have h5 := hI.1.2.2.2.2.2.2.1
  rcases bin_01 x 0 (σ 5 0 - 1) with hb | hb
  · have hv := bin_n0 (by omega) (h5 ▸ hb)
    have hm := cm_temper_b1 l D T om am σ x y hb
    exact badL hI (lk_temper_1 l D T ea mi sa _ _ f x y (ch_temper_b l hfl D T ea mi sa _ ad _ _ _ (N 1) x y hv) ⟨rfl, rfl⟩) ⟨rfl, rfl, by decide, by decide⟩ (by decide) hm
  · obtain ⟨i, hi, rfl⟩ := bin_n1 (by omega) (h5 ▸ hb)
    obtain ⟨i12, c1, c2⟩ := liB hI hi
    obtain ⟨⟨mo, hmo, b0, s6, bs⟩, ⟨b3, b456⟩, ⟨b7, w7⟩, ⟨b8, w8⟩, b9, ⟨b10, w10⟩, ⟨b11, w11⟩, ⟨b12, w12⟩, ⟨p9, hp9, b13, s15⟩, hld, hpt, har⟩ := hI.2.2.2.2.2.2.2 i hi
    obtain ⟨hN3, hs24, hlo, hbits⟩ := hI.2.2.2.1
    rcases bin_01 y 100 700 with hs | hs
    · have hg : gth 1 (bin y 100 700) (if σ 16 i = -1 then 0 else 1) = 2 := by rw [hs]; rfl
      have hm := cm_temper_b2 l D T om am σ i y i12 hb (by rw [hg]; decide)
      rw [hg] at hm
      exact bad4 hI hi (lk_temper_2 l D T ea mi sa _ _ f (nI i) y (ch_temper_a l hfl D T ea mi sa _ ad _ _ _ _ _ _ _ _ _ _ _ i hi c1 c2 (liF_at hi) y (bin0.mp hs)) ⟨rfl, rfl⟩) ⟨rfl, rfl, by decide, by decide⟩ (by decide) hm
    · obtain ⟨q1, q2⟩ := bin_k1 hs
      rcases id hld with ⟨h1, h2, h3, h4⟩ | ⟨ld, h1, h2, h3, h4, h6⟩
      · have hg : gth 1 (bin y 100 700) (if σ 16 i = -1 then 0 else 1) = 3 := by rw [hs, if_pos h2]; rfl
        have hm := cm_temper_b2 l D T om am σ i y i12 hb (by rw [hg]; decide)
        rw [hg] at hm
        exact badT hI hi (lk_temper_3 l D T ea mi sa _ _ f (nI i) y (ch_temper_l l hfl D T ea mi sa _ ad _ _ _ _ _ _ _ _ _ _ _ i hi c1 c2 (liF_at hi) (ρ 9) y q1 q2 (by rw [h1]; rfl)) ⟨rfl, rfl⟩) ⟨rfl, rfl, by decide, by decide⟩ (by decide) hm
      · obtain ⟨n, n1, n2, rfl⟩ := bin_nat (lo := 100) (hi := 700) (by decide) (by decide) hs
        have hm := cm_temper_ok l D T om am σ i (nI n) i12 hb hs (by rw [h3]; exact nm1 (by omega))
        have ht := tmp_max h4 n1 n2
        have e : LH (fun j => if ρ (100 + 3 * i) 14 = -1 then 0 else hrc (ρ (102 + 3 * i) j) (if ρ (100 + 3 * i) 16 < nI n then nI n else ρ (100 + 3 * i) 16)) = SF (fun j => σ 8 (8 * i + j)) (if σ 17 i < nI n then nI n else σ 17 i) := LH_SF (fun j hj => by rw [h2, if_neg (nm1 (by omega)), h6 j hj]; exact hrc_hrd ht)
        rw [← e] at hm
        exact okB8 hI hi (lk_temper l D T ea mi sa _ _ f (nI i) (nI n) (zI_H (ch_temper l D T _ ad _ _ _ _ _ _ _ _ _ _ _ _ _ _ i hi c1 c2 (liF_at hi) (ρ 9) (nI n) q1 q2 (by rw [h2, isl1 (show ld < 20 by omega) (Nat.le_refl 20)]; decide))) ⟨rfl, rfl⟩ (fun _ _ _ => rfl) (fun _ => Nat.le_refl _)) ⟨rfl, rfl, by decide, by decide⟩ hm rfl
          (fun k h1 h2 => (upS_ne _ _ (show k ≠ 31 by omega)).trans (upS_ne _ _ (show k ≠ 17 by omega)))
                (fun k i' hk hne => by
                    by_cases e17 : k = 17
                    · subst e17; exact upd_ne _ _ hne
                    exact congrFun ((upS_ne _ _ (show k ≠ 31 by omega)).trans (upS_ne _ _ (show k ≠ 17 by omega))) i'
                )
                (fun k i' j7 hk hne hj7 => by
                    exact congrFun ((upS_ne _ _ (show k ≠ 31 by omega)).trans (upS_ne _ _ (show k ≠ 17 by omega))) (8 * i' + j7)
                )
          ⟨⟨mo, hmo, b0, s6, bs⟩, ⟨b3, b456⟩, ⟨b7, w7⟩, ⟨b8, w8⟩, b9, ⟨b10, w10⟩, ⟨b11, bnd_le (Nat.le_succ C) w11⟩, ⟨b12, w12⟩, ⟨p9, hp9, b13, s15⟩, Or.inr ⟨ld, h1, h2, h3, (by rw [show (upS (upS σ 17 (upd (σ 17) i (if σ 17 i < nI n then nI n else σ 17 i))) 31 (fun _ => 0)) 17 i = (if σ 17 i < nI n then nI n else σ 17 i) from upd_same _ _ _]; exact ht), h6⟩, hpt, fun j hj => ⟨(har j hj).1, nbd_le (by omega) (har j hj).2⟩⟩
theorem st_layer (hfl : l.stackTraces = false) (hC : C ≤ 600) (hI : Inv C J N mst bst ρ σ) (x y : Int32) : StepR l D T ea mi sa yL_layer wsL_layer 5 [.ref (ad 0), .int x, .int y, .ref (ad 16)] yX6_layer wsX6_layer (zrm 2 43) [.ref om, .int x, .int y] (fun r => r.toInt64) om am C ad J N mst bst ρ σ f := by
  have hn := hI.1.2.2.2.1
  have h5 := hI.1.2.2.2.2.2.2.1
  rcases bin_01 x 0 (σ 5 0 - 1) with hb | hb
  · have hv := bin_n0 (by omega) (h5 ▸ hb)
    have hm := cm_layer_b1 l D T om am σ x y hb
    exact badL hI (lk_layer_1 l D T ea mi sa _ _ f x y (ch_layer_b l hfl D T ea mi sa _ ad _ _ _ (N 1) x y hv) ⟨rfl, rfl⟩) ⟨rfl, rfl, by decide, by decide⟩ (by decide) hm
  · obtain ⟨i, hi, rfl⟩ := bin_n1 (by omega) (h5 ▸ hb)
    obtain ⟨i12, c1, c2⟩ := liB hI hi
    obtain ⟨⟨mo, hmo, b0, s6, bs⟩, ⟨b3, b456⟩, ⟨b7, w7⟩, ⟨b8, w8⟩, b9, ⟨b10, w10⟩, ⟨b11, w11⟩, ⟨b12, w12⟩, ⟨p9, hp9, b13, s15⟩, hld, hpt, har⟩ := hI.2.2.2.2.2.2.2 i hi
    rcases bin_01 y 0 2 with hs | hs
    · have hg : gth 1 (bin y 0 2) (if σ 10 i < 900 then 0 else 1) = 2 := by rw [hs]; rfl
      have hm := cm_layer_b2 l D T om am σ i y i12 hb (by rw [hg]; decide)
      rw [hg] at hm
      exact bad4 hI hi (lk_layer_2 l D T ea mi sa _ _ f (nI i) y (ch_layer_a l hfl D T ea mi sa _ ad _ _ _ _ _ _ _ _ _ _ _ i hi c1 c2 (liF_at hi) y (bin0.mp hs)) ⟨rfl, rfl⟩) ⟨rfl, rfl, by decide, by decide⟩ (by decide) hm
    · obtain ⟨a, a3, rfl⟩ := bin_n1 (v := y) (n := 3) (by decide) hs
      by_cases hc : σ 10 i < 900
      · have hg : gth 1 (bin (nI a) 0 2) (if σ 10 i < 900 then 0 else 1) = 3 := by rw [hs, if_pos hc]; rfl
        have hm := cm_layer_b2 l D T om am σ i (nI a) i12 hb (by rw [hg]; decide)
        rw [hg] at hm
        exact bad4 hI hi (lk_layer_3 l D T ea mi sa _ _ f (nI i) (nI a) (ch_layer_c l hfl D T ea mi sa _ ad _ _ _ _ _ _ _ _ _ _ _ i hi c1 c2 (liF_at hi) a a3 (by rw [b8]; exact Int32.not_le.mpr hc)) ⟨rfl, rfl⟩) ⟨rfl, rfl, by decide, by decide⟩ (by decide) hm
      · have hm := cm_layer_ok l D T om am σ i a p9 i12 a3 hb hs hc s15
        rw [AC_eq, (actN_ok p9 hp9 a a3).1] at hm
        exact okB hI hi (lk_layer l D T ea mi sa _ _ f (nI i) (nI a) (zI_H (ch_layer l D T _ ad _ _ _ _ _ _ _ _ _ _ _ _ _ _ i hi c1 c2 (liF_at hi) p9 a hp9 a3 b13 (by rw [b8]; exact Int32.not_lt.mp hc))) ⟨rfl, rfl⟩ (fun _ _ _ => rfl) (fun _ => Nat.le_refl _)) ⟨rfl, rfl, by decide, by decide⟩ hm rfl
          (fun k h1 h2 => (upS_ne _ _ (show k ≠ 31 by omega)).trans (upS_ne _ _ (show k ≠ 15 by omega)))
                (fun k i' hk hne => by
                    by_cases e15 : k = 15
                    · subst e15; exact upd_ne _ _ hne
                    exact congrFun ((upS_ne _ _ (show k ≠ 31 by omega)).trans (upS_ne _ _ (show k ≠ 15 by omega))) i'
                )
                (fun k i' j7 hk hne hj7 => by
                    exact congrFun ((upS_ne _ _ (show k ≠ 31 by omega)).trans (upS_ne _ _ (show k ≠ 15 by omega))) (8 * i' + j7)
                )
          ⟨⟨mo, hmo, b0, s6, bs⟩, ⟨b3, b456⟩, ⟨b7, w7⟩, ⟨b8, w8⟩, b9, ⟨b10, w10⟩, ⟨b11, bnd_le (Nat.le_succ C) w11⟩, ⟨b12, w12⟩, ⟨actN p9 a, (actN_ok p9 hp9 a a3).2, rfl, upd_same _ _ _⟩, hld, hpt, fun j hj => ⟨(har j hj).1, nbd_le (by omega) (har j hj).2⟩⟩
end ST4
