/-! ===== steps: what is asked of a billet ===== -/
section ST2
variable {l : Launch} {D : va_G} {T : Nat → ClassId} {ea mi : Nat} {sa : Nat → Nat} {om : Nat} {am : Nat → Nat}
variable {C : Nat} {ad : Nat → Nat} {J : List Nat} {N mst bst : Nat → Nat} {ρ σ : Nat → Nat → Int32} {f : Nat → Int64}
variable {cy : MethodName} {cws : List Cond} {nL : Nat} {las : List Value} {my : MethodName} {mws : List Cond} {mrm : Room} {mas : List Value} {cv : Int32 → Int64} {rm : Room} {k rv : Int32} {i : Nat}
theorem rd4 (hI : Inv C J N mst bst ρ σ) (hi : i < N 1) (hw : ZIH l cy cws rm (zX ea mi sa) D T (S := Unit) (ouW (ad 16) T f :: B4 ad T N bst ρ i) (fun _ => (ad 16, .inl (T 2, 1, .inr (.inl (vp_updL f (0 : Int32).toNatClampNeg (cv rv))))) :: B4 ad T N bst ρ i) las 0 0 0)
    (hrm : rm.cells = 0 ∧ rm.slots = 0 ∧ rm.frames + 1 ≤ 11 ∧ 8 + (nL + 11) + rm.locals ≤ 404) (hm : ZI l my mws mrm D T (mW om am T σ) (mW om am T (upS σ 31 (fun _ => 0))) mas rv 0 0) : StepR l D T ea mi sa cy cws nL las my mws mrm mas cv om am C ad J N mst bst ρ σ f := by
  have hn := hI.1.2.2.2.1
  have hw2 : ZIH l cy cws rm (zX ea mi sa) D T (S := Unit) (ouW (ad 16) T f :: iw [0, 7, 21, 100 + 3 * i] ad (hG ad T ea f N mst bst ρ)) (fun _ => ouW (ad 16) T (vp_updL f (0 : Int32).toNatClampNeg (cv rv)) :: iw [0, 7, 21, 100 + 3 * i] ad (hG ad T ea (vp_updL f (0 : Int32).toNatClampNeg (cv rv)) N mst bst ρ)) las 0 0 0 := by
    rw [b4_iw (by omega) (by omega), b4_iw (by omega) (by omega)]
    exact hw
  exact step_u (σ' := fun _ : Unit => upS σ 31 (fun _ => 0)) hI nd4 (li4 hi) hw2 hrm ⟨by decide, by decide⟩ (fun _ _ => rfl) (zI_M hm) (fun _ => rfl) (fun _ => vpL _ _) (fun _ => Inv_read (Nat.le_succ C) hI (fun j hj => upS_ne σ _ (show j ≠ 31 by omega)))
abbrev B8 (ad : Nat → Nat) (T : Nat → ClassId) (N bst : Nat → Nat) (ρ : Nat → Nat → Int32) (i : Nat) : va_W := B7 ad T N bst ρ i ++ [(ad 9, .inl (T 0, 20, .inl (ρ 9)))]
theorem b8_iw (hi : i < 12) (h0 : 0 < N 1) (hb : bst i < 4) : iw [0, 7, 21, 100 + 3 * i, 101 + 3 * i, 102 + 3 * i, 2 + bst i, 9] ad (hG ad T ea f N mst bst ρ) = B8 ad T N bst ρ i := by
  rw [iw_cons, iw_cons, iw_cons, iw_cons, iw_cons, iw_cons, iw_cons, iw_cons, iw_nil, hG_b hi, hG_7 h0, hG_a hi, hG_q hi, hG_s hb]
  rfl
theorem ok8 (hI : Inv C J N mst bst ρ σ) (hi : i < N 1) {ρ' : Nat → Nat → Int32} (hw : ZIH l cy cws rm (zX ea mi sa) D T (S := Unit) (ouW (ad 16) T f :: B8 ad T N bst ρ i) (fun _ => (ad 16, .inl (T 2, 1, .inr (.inl (vp_updL f (0 : Int32).toNatClampNeg (cv rv))))) :: B8 ad T N bst ρ' i) las 0 0 0)
    (hrm : rm.cells = 0 ∧ rm.slots = 0 ∧ rm.frames + 1 ≤ 11 ∧ 8 + (nL + 11) + rm.locals ≤ 404) {σ' : Nat → Nat → Int32} (hm : ZI l my mws mrm D T (mW om am T σ) (mW om am T σ') mas rv 0 0) (h31 : σ' 31 0 = 0)
    (hr : ∀ j, j ≠ 0 → j ≠ 7 → j ≠ 21 → j ≠ 100 + 3 * i → j ≠ 101 + 3 * i → j ≠ 102 + 3 * i → j ≠ 2 + bst i → j ≠ 9 → ρ' j = ρ j) (hI' : Inv (C + 1) J N mst bst ρ' σ') : StepR l D T ea mi sa cy cws nL las my mws mrm mas cv om am C ad J N mst bst ρ σ f := by
  have hn := hI.1.2.2.2.1
  have hb := bst4 hI hi
  rw [← b8_iw (f := f) (ea := ea) (mst := mst) (ρ := ρ) (by omega) (by omega) hb] at hw
  rw [← b8_iw (f := vp_updL f (0 : Int32).toNatClampNeg (cv rv)) (ea := ea) (mst := mst) (ρ := ρ') (by omega) (by omega) hb] at hw
  refine step_u (f' := vp_updL f (0 : Int32).toNatClampNeg (cv rv)) (ρ' := ρ') (σ' := fun _ : Unit => σ') hI (js := [0, 7, 21, 100 + 3 * i, 101 + 3 * i, 102 + 3 * i, 2 + bst i, 9]) ?_ (fun j hj => ?_) hw hrm ⟨by decide, by decide⟩ (fun j hj => ?_) (zI_M hm) (fun _ => h31) (fun _ => vpL _ _) (fun _ => hI')
  · simp only [List.nodup_cons, List.mem_cons, List.not_mem_nil, or_false, List.nodup_nil, and_true, not_false_eq_true]
    omega
  · simp only [List.mem_cons, List.not_mem_nil, or_false] at hj
    unfold liv
    omega
  · simp only [List.mem_cons, List.not_mem_nil, or_false, not_or] at hj
    exact hr j hj.1 hj.2.1 hj.2.2.1 hj.2.2.2.1 hj.2.2.2.2.1 hj.2.2.2.2.2.1 hj.2.2.2.2.2.2.1 hj.2.2.2.2.2.2.2
theorem rd8 (hI : Inv C J N mst bst ρ σ) (hi : i < N 1) (hw : ZIH l cy cws rm (zX ea mi sa) D T (S := Unit) (ouW (ad 16) T f :: B8 ad T N bst ρ i) (fun _ => (ad 16, .inl (T 2, 1, .inr (.inl (vp_updL f (0 : Int32).toNatClampNeg (cv rv))))) :: B8 ad T N bst ρ i) las 0 0 0)
    (hrm : rm.cells = 0 ∧ rm.slots = 0 ∧ rm.frames + 1 ≤ 11 ∧ 8 + (nL + 11) + rm.locals ≤ 404) (hm : ZI l my mws mrm D T (mW om am T σ) (mW om am T (upS σ 31 (fun _ => 0))) mas rv 0 0) : StepR l D T ea mi sa cy cws nL las my mws mrm mas cv om am C ad J N mst bst ρ σ f :=
  ok8 hI hi hw hrm hm rfl (fun _ _ _ _ _ _ _ _ _ => rfl) (Inv_read (Nat.le_succ C) hI (fun j hj => upS_ne σ _ (show j ≠ 31 by omega)))
abbrev BT5 (ad : Nat → Nat) (T : Nat → ClassId) (N bst : Nat → Nat) (ρ : Nat → Nat → Int32) (i : Nat) : va_W := B4 ad T N bst ρ i ++ [(ad 9, .inl (T 0, 20, .inl (ρ 9)))]
theorem bt_iw (hi : i < 12) (h0 : 0 < N 1) : iw [0, 7, 21, 100 + 3 * i, 9] ad (hG ad T ea f N mst bst ρ) = BT5 ad T N bst ρ i := by
  rw [iw_cons, iw_cons, iw_cons, iw_cons, iw_cons, iw_nil, hG_b hi, hG_7 h0]
  rfl
theorem ndT : [0, 7, 21, 100 + 3 * i, 9].Nodup := by
  simp only [List.nodup_cons, List.mem_cons, List.not_mem_nil, or_false, List.nodup_nil, and_true, not_false_eq_true]
  omega
theorem liT (hi : i < N 1) : ∀ j ∈ [0, 7, 21, 100 + 3 * i, 9], liv N j := by
  intro j hj
  simp only [List.mem_cons, List.not_mem_nil, or_false] at hj
  unfold liv
  omega
theorem badT (hI : Inv C J N mst bst ρ σ) (hi : i < N 1) (hw : ZIH l cy cws rm (zX ea mi sa) D T (S := Unit) (ouW (ad 16) T f :: BT5 ad T N bst ρ i) (fun _ => ouW (ad 16) T f :: BT5 ad T N bst ρ i) las k 1 6)
    (hrm : rm.cells = 1 ∧ rm.slots = 6 ∧ rm.frames + 1 ≤ 11 ∧ 8 + (nL + 11) + rm.locals ≤ 404) (hk : k ≠ 0) (hm : ZI l my mws mrm D T (mW om am T σ) (mW om am T (upS σ 31 (fun _ => k))) mas rv 0 0) : StepR l D T ea mi sa cy cws nL las my mws mrm mas cv om am C ad J N mst bst ρ σ f := by
  have hn := hI.1.2.2.2.1
  rw [← bt_iw (f := f) (ea := ea) (mst := mst) (by omega) (by omega)] at hw
  exact step_bad (js := [0, 7, 21, 100 + 3 * i, 9]) hI ndT (liT hi) hw hrm hk hm
theorem rdT (hI : Inv C J N mst bst ρ σ) (hi : i < N 1) (hw : ZIH l cy cws rm (zX ea mi sa) D T (S := Unit) (ouW (ad 16) T f :: BT5 ad T N bst ρ i) (fun _ => (ad 16, .inl (T 2, 1, .inr (.inl (vp_updL f (0 : Int32).toNatClampNeg (cv rv))))) :: BT5 ad T N bst ρ i) las 0 0 0)
    (hrm : rm.cells = 0 ∧ rm.slots = 0 ∧ rm.frames + 1 ≤ 11 ∧ 8 + (nL + 11) + rm.locals ≤ 404) (hm : ZI l my mws mrm D T (mW om am T σ) (mW om am T (upS σ 31 (fun _ => 0))) mas rv 0 0) : StepR l D T ea mi sa cy cws nL las my mws mrm mas cv om am C ad J N mst bst ρ σ f := by
  have hn := hI.1.2.2.2.1
  have hw2 : ZIH l cy cws rm (zX ea mi sa) D T (S := Unit) (ouW (ad 16) T f :: iw [0, 7, 21, 100 + 3 * i, 9] ad (hG ad T ea f N mst bst ρ)) (fun _ => ouW (ad 16) T (vp_updL f (0 : Int32).toNatClampNeg (cv rv)) :: iw [0, 7, 21, 100 + 3 * i, 9] ad (hG ad T ea (vp_updL f (0 : Int32).toNatClampNeg (cv rv)) N mst bst ρ)) las 0 0 0 := by
    rw [bt_iw (by omega) (by omega), bt_iw (by omega) (by omega)]
    exact hw
  exact step_u (σ' := fun _ : Unit => upS σ 31 (fun _ => 0)) hI ndT (liT hi) hw2 hrm ⟨by decide, by decide⟩ (fun _ _ => rfl) (zI_M hm) (fun _ => rfl) (fun _ => vpL _ _) (fun _ => Inv_read (Nat.le_succ C) hI (fun j hj => upS_ne σ _ (show j ≠ 31 by omega)))
theorem nm1 {n : Nat} (h : n < 2 ^ 31) : ¬ nI n = -1 := nI_nm1 h
theorem isl0 (lo : Int32) : isl (-1) lo = 0 := rfl
theorem isl1 {ld nl : Nat} (h : ld < nl) (hn : nl ≤ 20) : isl (nI ld) (nI nl) = 1 := by
  unfold isl
  rw [if_neg (fun h => nI_pos (show ld < 2 ^ 31 by omega) h), if_pos ((nI_ltI (by omega) (by omega)).mpr h)]
/-- the load of a billet -/
abbrev ldR (N : Nat → Nat) (β κ : Nat → Int32) (σ : Nat → Nat → Int32) (i : Nat) : Prop := (β 14 = -1 ∧ σ 16 i = -1 ∧ σ 17 i = 0 ∧ ∀ j, j < 8 → σ 8 (8 * i + j) = 0) ∨ ∃ ld, ld < N 3 ∧ β 14 = nI ld ∧ σ 16 i = nI ld ∧ tmpR (β 16) (σ 17 i) ∧ ∀ j, j < 8 → κ j = σ 8 (8 * i + j)
theorem ld_hrd {β κ : Nat → Int32} (hN : N 3 ≤ 20) (h : ldR N β κ σ i) (j : Nat) (hj : j < 8) : (if β 14 = -1 then 0 else hrc (κ j) (β 16)) = hrd (σ 8 (8 * i + j)) (σ 17 i) := by
  rcases h with ⟨h1, h2, h3, h4⟩ | ⟨ld, h1, h2, h3, h4, h5⟩
  · rw [if_pos h1, h3, h4 j hj]
    decide
  · rw [h2, if_neg (nm1 (by omega)), h5 j hj]
    exact hrc_hrd h4
theorem ld_sf {β κ : Nat → Int32} (hN : N 3 ≤ 20) (h : ldR N β κ σ i) : LH (fun j => if β 14 = -1 then 0 else hrc (κ j) (β 16)) = SF (fun j => σ 8 (8 * i + j)) (σ 17 i) := LH_SF (fun j hj => ld_hrd hN h j hj)
theorem VO_sl {α g : Nat → Int32} {b : Nat} (h : ∀ j, j < 8 → α j = g (b + j)) : VO α 0 = VO g b := by
  rw [VO_eq, VO_eq]
  have key : ∀ n, n ≤ 8 → vol α 0 n = vol g b n := by
    intro n
    induction n with
    | zero => intro _; rfl
    | succ n ih =>
      intro hn
      rw [vol, vol, ih (by omega), Nat.zero_add, h n (by omega)]
  exact key 8 (Nat.le_refl 8)
theorem sub4 (a b c d : Int32) : a - b - c - d = a - (b + c + d) := by
  simp only [Int32.sub_eq_add_neg, Int32.neg_add, Int32.add_assoc]
theorem st_hardness (hfl : l.stackTraces = false) (hC : C ≤ 600) (hI : Inv C J N mst bst ρ σ) (x y : Int32) : StepR l D T ea mi sa yL_hardness wsL_hardness 5 [.ref (ad 0), .int x, .int y, .ref (ad 16)] yX6_hardness wsX6_hardness (zrm 2 43) [.ref om, .int x, .int y] (fun r => r.toInt64) om am C ad J N mst bst ρ σ f := by
  have hn := hI.1.2.2.2.1
  have h5 := hI.1.2.2.2.2.2.2.1
  rcases bin_01 x 0 (σ 5 0 - 1) with hb | hb
  · have hv := bin_n0 (by omega) (h5 ▸ hb)
    have hg : gth (if bin x 0 (σ 5 0 - 1) = 0 then 0 else if bin y 0 7 = 0 then 0 else 1) 1 1 = 1 := by rw [hb]; rfl
    have hm := cm_hardness_bad l D T om am σ x y (by rw [hg]; decide)
    rw [hg] at hm
    exact badL hI (lk_hardness_1 l D T ea mi sa _ _ f x y (ch_hardness_b l hfl D T ea mi sa _ ad _ _ _ (N 1) x y hv) ⟨rfl, rfl⟩) ⟨rfl, rfl, by decide, by decide⟩ (by decide) hm
  · obtain ⟨i, hi, rfl⟩ := bin_n1 (by omega) (h5 ▸ hb)
    obtain ⟨i12, c1, c2⟩ := liB hI hi
    obtain ⟨⟨mo, hmo, b0, s6, bs⟩, ⟨b3, b456⟩, ⟨b7, w7⟩, ⟨b8, w8⟩, b9, ⟨b10, w10⟩, ⟨b11, w11⟩, ⟨b12, w12⟩, ⟨p9, hp9, b13, s15⟩, hld, hpt, har⟩ := hI.2.2.2.2.2.2.2 i hi
    rcases bin_01 y 0 7 with hs | hs
    · have hg : gth (if bin (nI i) 0 (σ 5 0 - 1) = 0 then 0 else if bin y 0 7 = 0 then 0 else 1) 1 1 = 1 := by rw [hb, hs]; rfl
      have hm := cm_hardness_bad l D T om am σ (nI i) y (by rw [hg]; decide)
      rw [hg] at hm
      exact bad4 hI hi (lk_hardness_1 l D T ea mi sa _ _ f (nI i) y (ch_hardness_s l hfl D T ea mi sa _ ad _ _ _ _ _ _ _ _ _ _ _ i hi c1 c2 (liF_at hi) y (bin_70 hs)) ⟨rfl, rfl⟩) ⟨rfl, rfl, by decide, by decide⟩ (by decide) hm
    · obtain ⟨j, hj, rfl⟩ := bin_71 hs
      have hm := cm_hardness_ok l D T om am σ i j i12 hj hb hs
      rw [← ld_hrd hI.2.2.2.1.1 hld j hj] at hm
      exact rd7 hI hi (lk_hardness l D T ea mi sa _ _ f (nI i) (nI j) (zI_H (ch_hardness l D T _ ad _ _ _ _ _ _ _ _ _ _ _ _ _ _ i hi c1 c2 (liF_at hi) j hj)) ⟨rfl, rfl⟩ (fun _ _ _ => rfl) (fun _ => Nat.le_refl _)) ⟨rfl, rfl, by decide, by decide⟩ hm
theorem st_balances (hfl : l.stackTraces = false) (hC : C ≤ 600) (hI : Inv C J N mst bst ρ σ) (x : Int32) : StepR l D T ea mi sa yL_balances wsL_balances 4 [.ref (ad 0), .int x, .ref (ad 16)] yX6_balances wsX6_balances (zrm 2 43) [.ref om, .int x] (fun r => if r = 0 then 0 else 1) om am C ad J N mst bst ρ σ f := by
  have hn := hI.1.2.2.2.1
  have h5 := hI.1.2.2.2.2.2.2.1
  rcases bin_01 x 0 (σ 5 0 - 1) with hb | hb
  · have hv := bin_n0 (by omega) (h5 ▸ hb)
    have hg : gth (bin x 0 (σ 5 0 - 1)) 1 1 = 1 := by rw [hb]; rfl
    have hm := cm_balances_bad l D T om am σ x (by rw [hg]; decide)
    rw [hg] at hm
    exact badL hI (lk_balances_1 l D T ea mi sa _ _ f x (ch_balances_b l hfl D T ea mi sa _ ad _ _ _ (N 1) x hv) ⟨rfl, rfl⟩) ⟨rfl, rfl, by decide, by decide⟩ (by decide) hm
  · obtain ⟨i, hi, rfl⟩ := bin_n1 (by omega) (h5 ▸ hb)
    obtain ⟨i12, c1, c2⟩ := liB hI hi
    obtain ⟨⟨mo, hmo, b0, s6, bs⟩, ⟨b3, b456⟩, ⟨b7, w7⟩, ⟨b8, w8⟩, b9, ⟨b10, w10⟩, ⟨b11, w11⟩, ⟨b12, w12⟩, ⟨p9, hp9, b13, s15⟩, hld, hpt, har⟩ := hI.2.2.2.2.2.2.2 i hi
    have hm := cm_balances_ok l D T om am σ i i12 hb
    rw [← VO_sl (α := ρ (101 + 3 * i)) (fun j hj => (har j hj).1), ← b3, ← b456, ← sub4] at hm
    exact rd7 hI hi (lk_balances l D T ea mi sa _ _ f (nI i) (zI_H (ch_balances l D T _ ad _ _ _ _ _ _ _ _ _ _ _ _ _ _ i hi c1 c2 (liF_at hi) )) ⟨rfl, rfl⟩ (fun _ _ _ => rfl) (fun _ => Nat.le_refl _)) ⟨rfl, rfl, by decide, by decide⟩ hm
theorem st_billetIs (hfl : l.stackTraces = false) (hC : C ≤ 600) (hI : Inv C J N mst bst ρ σ) (x y : Int32) : StepR l D T ea mi sa yL_billetIs wsL_billetIs 5 [.ref (ad 0), .int x, .int y, .ref (ad 16)] yX6_billetIs wsX6_billetIs (zrm 2 45) [.ref om, .int x, .int y] (fun r => r.toInt64) om am C ad J N mst bst ρ σ f := by
  have hn := hI.1.2.2.2.1
  have h5 := hI.1.2.2.2.2.2.2.1
  rcases bin_01 x 0 (σ 5 0 - 1) with hb | hb
  · have hv := bin_n0 (by omega) (h5 ▸ hb)
    have hg : gth (bin x 0 (σ 5 0 - 1)) (bin y 0 8) 1 = 1 := by rw [hb]; rfl
    have hm := cm_billetIs_bad l D T om am σ x y (by rw [hg]; decide)
    rw [hg] at hm
    exact badL hI (lk_billetIs_1 l D T ea mi sa _ _ f x y (ch_billetIs_b l hfl D T ea mi sa _ ad _ _ _ (N 1) x y hv) ⟨rfl, rfl⟩) ⟨rfl, rfl, by decide, by decide⟩ (by decide) hm
  · obtain ⟨i, hi, rfl⟩ := bin_n1 (by omega) (h5 ▸ hb)
    obtain ⟨i12, c1, c2⟩ := liB hI hi
    obtain ⟨⟨mo, hmo, b0, s6, bs⟩, ⟨b3, b456⟩, ⟨b7, w7⟩, ⟨b8, w8⟩, b9, ⟨b10, w10⟩, ⟨b11, w11⟩, ⟨b12, w12⟩, ⟨p9, hp9, b13, s15⟩, hld, hpt, har⟩ := hI.2.2.2.2.2.2.2 i hi
    rcases bin_01 y 0 8 with hs | hs
    · have hg : gth (bin (nI i) 0 (σ 5 0 - 1)) (bin y 0 8) 1 = 2 := by rw [hb, hs]; rfl
      have hm := cm_billetIs_bad l D T om am σ (nI i) y (by rw [hg]; decide)
      rw [hg] at hm
      exact bad4 hI hi (lk_billetIs_2 l D T ea mi sa _ _ f (nI i) y (ch_billetIs_a l hfl D T ea mi sa _ ad _ _ _ _ _ _ _ _ _ _ _ i hi c1 c2 (liF_at hi) y (bin0.mp hs)) ⟨rfl, rfl⟩) ⟨rfl, rfl, by decide, by decide⟩ (by decide) hm
    · obtain ⟨w, hw, rfl⟩ := bin_n1 (v := y) (n := 9) (by decide) hs
      have hm := cm_billetIs_ok l D T om am σ i w i12 hw hb hs
      have ew : w = 0 ∨ w = 1 ∨ w = 2 ∨ w = 3 ∨ w = 4 ∨ w = 5 ∨ w = 6 ∨ w = 7 ∨ w = 8 := by omega
      rcases ew with rfl | rfl | rfl | rfl | rfl | rfl | rfl | rfl | rfl
      · have e : ρ (100 + 3 * i) 7 = σ 9 i := b7
        have hm2 : ZI l yX6_billetIs wsX6_billetIs (zrm 2 45) D T (mW om am T σ) (mW om am T (upS σ 31 (fun _ => 0))) [.ref om, .int (nI i), .int (nI 0)] (ρ (100 + 3 * i) 7) 0 0 := by rw [e]; exact hm
        exact rd7 hI hi (lk_billetIs l D T ea mi sa _ _ f (nI i) (nI 0) (zI_H (ch_billetIs_0 l D T _ ad _ _ _ _ _ _ _ _ _ _ _ _ _ _ i hi c1 c2 (liF_at hi) )) ⟨rfl, rfl⟩ (fun _ _ _ => rfl) (fun _ => Nat.le_refl _)) ⟨rfl, rfl, by decide, by decide⟩ hm2
      · have e : ρ (100 + 3 * i) 8 = σ 10 i := b8
        have hm2 : ZI l yX6_billetIs wsX6_billetIs (zrm 2 45) D T (mW om am T σ) (mW om am T (upS σ 31 (fun _ => 0))) [.ref om, .int (nI i), .int (nI 1)] (ρ (100 + 3 * i) 8) 0 0 := by rw [e]; exact hm
        exact rd7 hI hi (lk_billetIs l D T ea mi sa _ _ f (nI i) (nI 1) (zI_H (ch_billetIs_1 l D T _ ad _ _ _ _ _ _ _ _ _ _ _ _ _ _ i hi c1 c2 (liF_at hi) )) ⟨rfl, rfl⟩ (fun _ _ _ => rfl) (fun _ => Nat.le_refl _)) ⟨rfl, rfl, by decide, by decide⟩ hm2
      · have e : VO (ρ (101 + 3 * i)) 0 = VO (σ 7) (8 * i) := VO_sl (α := ρ (101 + 3 * i)) (fun j hj => (har j hj).1)
        have hm2 : ZI l yX6_billetIs wsX6_billetIs (zrm 2 45) D T (mW om am T σ) (mW om am T (upS σ 31 (fun _ => 0))) [.ref om, .int (nI i), .int (nI 2)] (VO (ρ (101 + 3 * i)) 0) 0 0 := by rw [e]; exact hm
        exact rd7 hI hi (lk_billetIs l D T ea mi sa _ _ f (nI i) (nI 2) (zI_H (ch_billetIs_2 l D T _ ad _ _ _ _ _ _ _ _ _ _ _ _ _ _ i hi c1 c2 (liF_at hi) )) ⟨rfl, rfl⟩ (fun _ _ _ => rfl) (fun _ => Nat.le_refl _)) ⟨rfl, rfl, by decide, by decide⟩ hm2
      · have e : ρ (100 + 3 * i) 9 = σ 12 i := b9
        have hm2 : ZI l yX6_billetIs wsX6_billetIs (zrm 2 45) D T (mW om am T σ) (mW om am T (upS σ 31 (fun _ => 0))) [.ref om, .int (nI i), .int (nI 3)] (ρ (100 + 3 * i) 9) 0 0 := by rw [e]; exact hm
        exact rd7 hI hi (lk_billetIs l D T ea mi sa _ _ f (nI i) (nI 3) (zI_H (ch_billetIs_3 l D T _ ad _ _ _ _ _ _ _ _ _ _ _ _ _ _ i hi c1 c2 (liF_at hi) )) ⟨rfl, rfl⟩ (fun _ _ _ => rfl) (fun _ => Nat.le_refl _)) ⟨rfl, rfl, by decide, by decide⟩ hm2
      · have e : ρ (100 + 3 * i) 10 = σ 11 i := b10
        have hm2 : ZI l yX6_billetIs wsX6_billetIs (zrm 2 45) D T (mW om am T σ) (mW om am T (upS σ 31 (fun _ => 0))) [.ref om, .int (nI i), .int (nI 4)] (ρ (100 + 3 * i) 10) 0 0 := by rw [e]; exact hm
        exact rd7 hI hi (lk_billetIs l D T ea mi sa _ _ f (nI i) (nI 4) (zI_H (ch_billetIs_4 l D T _ ad _ _ _ _ _ _ _ _ _ _ _ _ _ _ i hi c1 c2 (liF_at hi) )) ⟨rfl, rfl⟩ (fun _ _ _ => rfl) (fun _ => Nat.le_refl _)) ⟨rfl, rfl, by decide, by decide⟩ hm2
      · have e : ρ (100 + 3 * i) 11 = σ 13 i := b11
        have hm2 : ZI l yX6_billetIs wsX6_billetIs (zrm 2 45) D T (mW om am T σ) (mW om am T (upS σ 31 (fun _ => 0))) [.ref om, .int (nI i), .int (nI 5)] (ρ (100 + 3 * i) 11) 0 0 := by rw [e]; exact hm
        exact rd7 hI hi (lk_billetIs l D T ea mi sa _ _ f (nI i) (nI 5) (zI_H (ch_billetIs_5 l D T _ ad _ _ _ _ _ _ _ _ _ _ _ _ _ _ i hi c1 c2 (liF_at hi) )) ⟨rfl, rfl⟩ (fun _ _ _ => rfl) (fun _ => Nat.le_refl _)) ⟨rfl, rfl, by decide, by decide⟩ hm2
      · have e : (if ρ (100 + 3 * i) 12 = 0 then (0 : Int32) else 1) = if σ 14 i = 0 then 0 else 1 := by rw [b12]
        have hm2 : ZI l yX6_billetIs wsX6_billetIs (zrm 2 45) D T (mW om am T σ) (mW om am T (upS σ 31 (fun _ => 0))) [.ref om, .int (nI i), .int (nI 6)] (if ρ (100 + 3 * i) 12 = 0 then (0 : Int32) else 1) 0 0 := by rw [e]; exact hm
        exact rd7 hI hi (lk_billetIs l D T ea mi sa _ _ f (nI i) (nI 6) (zI_H (ch_billetIs_6 l D T _ ad _ _ _ _ _ _ _ _ _ _ _ _ _ _ i hi c1 c2 (liF_at hi) )) ⟨rfl, rfl⟩ (fun _ _ _ => rfl) (fun _ => Nat.le_refl _)) ⟨rfl, rfl, by decide, by decide⟩ hm2
      · have e : ρ (100 + 3 * i) 13 = σ 15 i := b13.trans s15.symm
        have hm2 : ZI l yX6_billetIs wsX6_billetIs (zrm 2 45) D T (mW om am T σ) (mW om am T (upS σ 31 (fun _ => 0))) [.ref om, .int (nI i), .int (nI 7)] (ρ (100 + 3 * i) 13) 0 0 := by rw [e]; exact hm
        exact rd7 hI hi (lk_billetIs l D T ea mi sa _ _ f (nI i) (nI 7) (zI_H (ch_billetIs_7 l D T _ ad _ _ _ _ _ _ _ _ _ _ _ _ _ _ i hi c1 c2 (liF_at hi) )) ⟨rfl, rfl⟩ (fun _ _ _ => rfl) (fun _ => Nat.le_refl _)) ⟨rfl, rfl, by decide, by decide⟩ hm2
      · have e : ρ (100 + 3 * i) 14 = σ 16 i := by rcases hld with h | ⟨ld, h⟩; exact h.1.trans h.2.1.symm; exact h.2.1.trans h.2.2.1.symm
        have hm2 : ZI l yX6_billetIs wsX6_billetIs (zrm 2 45) D T (mW om am T σ) (mW om am T (upS σ 31 (fun _ => 0))) [.ref om, .int (nI i), .int (nI 8)] (ρ (100 + 3 * i) 14) 0 0 := by rw [e]; exact hm
        exact rd7 hI hi (lk_billetIs l D T ea mi sa _ _ f (nI i) (nI 8) (zI_H (ch_billetIs_8 l D T _ ad _ _ _ _ _ _ _ _ _ _ _ _ _ _ i hi c1 c2 (liF_at hi) )) ⟨rfl, rfl⟩ (fun _ _ _ => rfl) (fun _ => Nat.le_refl _)) ⟨rfl, rfl, by decide, by decide⟩ hm2
theorem st_paper (hfl : l.stackTraces = false) (hC : C ≤ 600) (hI : Inv C J N mst bst ρ σ) (x y : Int32) : StepR l D T ea mi sa yL_paper wsL_paper 5 [.ref (ad 0), .int x, .int y, .ref (ad 16)] yX6_paper wsX6_paper (zrm 2 46) [.ref om, .int x, .int y] (fun r => r.toInt64) om am C ad J N mst bst ρ σ f := by
  have hn := hI.1.2.2.2.1
  have h5 := hI.1.2.2.2.2.2.2.1
  rcases bin_01 x 0 (σ 5 0 - 1) with hb | hb
  · have hv := bin_n0 (by omega) (h5 ▸ hb)
    have hg : gth (bin x 0 (σ 5 0 - 1)) (bin y 0 70) 1 = 1 := by rw [hb]; rfl
    have hm := cm_paper_bad l D T om am σ x y (by rw [hg]; decide)
    rw [hg] at hm
    exact badL hI (lk_paper_1 l D T ea mi sa _ _ f x y (ch_paper_b l hfl D T ea mi sa _ ad _ _ _ (N 1) x y hv) ⟨rfl, rfl⟩) ⟨rfl, rfl, by decide, by decide⟩ (by decide) hm
  · obtain ⟨i, hi, rfl⟩ := bin_n1 (by omega) (h5 ▸ hb)
    obtain ⟨i12, c1, c2⟩ := liB hI hi
    obtain ⟨⟨mo, hmo, b0, s6, bs⟩, ⟨b3, b456⟩, ⟨b7, w7⟩, ⟨b8, w8⟩, b9, ⟨b10, w10⟩, ⟨b11, w11⟩, ⟨b12, w12⟩, ⟨p9, hp9, b13, s15⟩, hld, hpt, har⟩ := hI.2.2.2.2.2.2.2 i hi
    rcases bin_01 y 0 70 with hs | hs
    · have hg : gth (bin (nI i) 0 (σ 5 0 - 1)) (bin y 0 70) 1 = 2 := by rw [hb, hs]; rfl
      have hm := cm_paper_bad l D T om am σ (nI i) y (by rw [hg]; decide)
      rw [hg] at hm
      exact bad4 hI hi (lk_paper_2 l D T ea mi sa _ _ f (nI i) y (ch_paper_a l hfl D T ea mi sa _ ad _ _ _ _ _ _ _ _ _ _ _ i hi c1 c2 (liF_at hi) y (bin0.mp hs)) ⟨rfl, rfl⟩) ⟨rfl, rfl, by decide, by decide⟩ (by decide) hm
    · obtain ⟨q1, q2⟩ := bin_k1 hs
      obtain ⟨hN3, hs24, hlo, hbits⟩ := hI.2.2.2.1
      have none : ∀ (hn9 : ρ (100 + 3 * i) 17 = 0 ∨ ¬ ρ (100 + 3 * i) 12 = 0 ∨ 0 < ρ (100 + 3 * i) 11 ∨ isl (ρ (100 + 3 * i) 14) (nI 20) = 0) (hm : ZI l yX6_paper wsX6_paper (zrm 2 46) D T (mW om am T σ) (mW om am T (upS σ 31 (fun _ => 0))) [.ref om, .int (nI i), .int y] (-1) 0 0), StepR l D T ea mi sa yL_paper wsL_paper 5 [.ref (ad 0), .int (nI i), .int y, .ref (ad 16)] yX6_paper wsX6_paper (zrm 2 46) [.ref om, .int (nI i), .int y] (fun r => r.toInt64) om am C ad J N mst bst ρ σ f := fun hn9 hm =>
        rdT hI hi (lk_paper l D T ea mi sa _ _ f (nI i) y (zI_H (ch_paper_n l D T _ ad _ _ _ _ _ _ _ _ _ _ _ i hi c1 c2 (liF_at hi) (ρ 9) y q1 q2 hn9)) ⟨rfl, rfl⟩ (fun _ _ _ => rfl) (fun _ => Nat.le_refl _)) ⟨rfl, rfl, by decide, by decide⟩ hm
      rcases id hld with ⟨h1, h2, h3, h4⟩ | ⟨ld, h1, h2, h3, h4, h6⟩
      · exact none (Or.inr (Or.inr (Or.inr (by rw [h1]; rfl)))) (cm_paper_ok0 l D T om am σ i y i12 hb hs h2)
      · have hm := cm_paper_ok l D T om am σ i ld mo y i12 hb hs (by omega) (by have := hI.1.2.2.1; omega) h3 s6
        rcases hpt with ⟨e1, e2⟩ | ⟨e1, e2⟩
        · rw [if_pos e2] at hm
          rcases w12 with e3 | e3
          · rw [if_pos (b12.symm.trans e3)] at hm
            obtain ⟨n, hn1, hn2⟩ := w11
            by_cases hn0 : n = 0
            · subst hn0
              rw [if_pos (b11.symm.trans (hn2.trans nI_0))] at hm
              have hsf := ld_sf (κ := ρ (102 + 3 * i)) hI.2.2.2.1.1 hld
              have hbit := hbits ld (by omega) mo (by have := hI.1.2.2.1; omega)
              have hlo2 : ¬ isl (nI ld) (nI 20) = 0 := by rw [isl1 (show ld < 20 by omega) (Nat.le_refl 20)]; decide
              have fin : (if ρ 9 ld &&& ((1 : Int32) <<< (ρ (100 + 3 * i) 0 &&& 31)) = 0 then -1 else if LH (fun j => if ρ (100 + 3 * i) 14 = -1 then 0 else hrc (ρ (102 + 3 * i) j) (ρ (100 + 3 * i) 16)) < y then -1 else ρ (100 + 3 * i) 0) = if SF (fun j => σ 8 (8 * i + j)) (σ 17 i) < y then -1 else if σ 25 (20 * ld + mo) = 0 then -1 else nI mo := by
                rw [hsf, b0]
                by_cases ha : σ 25 (20 * ld + mo) = 0
                · rw [if_pos (hbit.mpr ha), if_pos ha]
                  split <;> rfl
                · rw [if_neg (fun q => ha (hbit.mp q)), if_neg ha]
              rw [← fin] at hm
              exact rd8 hI hi (lk_paper l D T ea mi sa _ _ f (nI i) y (zI_H (ch_paper l D T _ ad _ _ _ _ _ _ _ _ _ _ _ _ _ _ i hi c1 c2 (liF_at hi) (ρ 9) ld (by omega) h2 hlo2 y q1 q2 (by rw [e1]; decide) e3 (by rw [hn2]; decide))) ⟨rfl, rfl⟩ (fun _ _ _ => rfl) (fun _ => Nat.le_refl _)) ⟨rfl, rfl, by decide, by decide⟩ hm
            · rw [if_neg (by rw [← b11, hn2]; exact fun q => hn0 ((z_eq0 (by omega)).mp q))] at hm
              exact none (Or.inr (Or.inr (Or.inl (by rw [hn2]; exact n_gt0 (by omega) (by omega))))) hm
          · rw [if_neg (by rw [← b12, e3]; decide)] at hm
            exact none (Or.inr (Or.inl (by rw [e3]; decide))) hm
        · rw [if_neg (by rw [e2]; decide)] at hm
          exact none (Or.inl e1) hm
end ST2
