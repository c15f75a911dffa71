/-! ===== cells and numbers for the steps ===== -/
theorem bin_01 (v lo hi : Int32) : bin v lo hi = 0 ∨ bin v lo hi = 1 := by
  unfold bin
  split
  · exact Or.inl rfl
  · split
    · exact Or.inl rfl
    · exact Or.inr rfl
theorem zI_of {v : Int32} (h : ¬ v < 0) : ∃ n : Nat, n < 2 ^ 31 ∧ v = nI n := by
  refine ⟨v.toNatClampNeg, ?_, ?_⟩
  · have h1 : v.toInt < 2 ^ 31 := Int32.toInt_lt v
    have h2 : (0 : Int) ≤ v.toInt := by
      have h3 := Int32.not_lt.mp h
      have h4 := Int32.le_iff_toInt_le.mp h3
      simpa using h4
    have h5 : v.toNatClampNeg = v.toInt.toNat := rfl
    omega
  · have h3 := Int32.not_lt.mp h
    have h4 : (0 : Int) ≤ v.toInt := by
      have h4 := Int32.le_iff_toInt_le.mp h3
      simpa using h4
    have h1 : v.toInt < 2 ^ 31 := Int32.toInt_lt v
    have h5 : v.toNatClampNeg = v.toInt.toNat := rfl
    apply Int32.toInt_inj.mp
    rw [nI_toInt (by omega), h5]
    omega
theorem bin_n0 {v : Int32} {n : Nat} (hn : n < 2 ^ 30) (h : bin v 0 (nI n - 1) = 0) : v < 0 ∨ nI n ≤ v := by
  by_cases h0 : v < 0
  · exact Or.inl h0
  · refine Or.inr ?_
    have h1 : nI n - 1 < v := (bin0.mp h).elim (fun q => absurd q h0) id
    obtain ⟨m, hm, rfl⟩ := zI_of h0
    cases n with
    | zero => rw [nI_0]; exact Int32.not_lt.mp h0
    | succ n =>
      have e : nI (n + 1) - 1 = nI n := by
        have := pk_sub (a := n + 1) (b := 1) (by omega)
        rw [show (1 : Int32) = nI 1 from rfl, this, Nat.add_sub_cancel]
      rw [e] at h1
      have h2 := (nI_ltI (by omega) hm).mp h1
      exact (nI_leI (by omega) hm).mpr h2
theorem bin_n1 {v : Int32} {n : Nat} (hn : n < 2 ^ 30) (h : bin v 0 (nI n - 1) = 1) : ∃ i, i < n ∧ v = nI i := by
  obtain ⟨h0, h1⟩ := bin1.mp h
  obtain ⟨m, hm, rfl⟩ := zI_of h0
  cases n with
  | zero =>
    refine absurd ?_ h1
    rw [nI_0]
    exact Int32.lt_of_lt_of_le (show (0 : Int32) - 1 < 0 by decide) (Int32.not_lt.mp h0)
  | succ n =>
    have e : nI (n + 1) - 1 = nI n := by
      have := pk_sub (a := n + 1) (b := 1) (by omega)
      rw [show (1 : Int32) = nI 1 from rfl, this, Nat.add_sub_cancel]
    rw [e] at h1
    refine ⟨m, ?_, rfl⟩
    have h2 := (nI_leI hm (by omega)).mp (Int32.not_lt.mp h1)
    omega
theorem bin_k1 {v lo hi : Int32} (h : bin v lo hi = 1) : ¬ v < lo ∧ v ≤ hi := ⟨(bin1.mp h).1, Int32.not_lt.mp (bin1.mp h).2⟩
theorem bin_70 {v : Int32} (h : bin v 0 7 = 0) : v < 0 ∨ 8 ≤ v := by
  have := bin_n0 (v := v) (n := 8) (by decide) h
  exact this
theorem bin_71 {v : Int32} (h : bin v 0 7 = 1) : ∃ j, j < 8 ∧ v = nI j := bin_n1 (v := v) (n := 8) (by decide) h
section CELLS
variable {ad : Nat → Nat} {T : Nat → ClassId} {ea : Nat} {f : Nat → Int64} {N mst bst : Nat → Nat} {ρ : Nat → Nat → Int32}
theorem hG_6 (h : 0 < N 0) : hG ad T ea f N mst bst ρ 6 = .inr (0, [.int (ρ 6 0), .ref (ad 20), .int (nI (N 0))]) := by
  have e : hG ad T ea f N mst bst ρ 6 = .inr (0, [.int (ρ 6 0), .ref (if N 0 = 0 then ea else ad 20), .int (nI (N 0))]) := rfl
  rw [e, if_neg (Nat.pos_iff_ne_zero.mp h)]
theorem hG_7 (h : 0 < N 1) : hG ad T ea f N mst bst ρ 7 = .inr (0, [.int (ρ 7 0), .ref (ad 21), .int (nI (N 1))]) := by
  have e : hG ad T ea f N mst bst ρ 7 = .inr (0, [.int (ρ 7 0), .ref (if N 1 = 0 then ea else ad 21), .int (nI (N 1))]) := rfl
  rw [e, if_neg (Nat.pos_iff_ne_zero.mp h)]
theorem hG_8 (h : 0 < N 2) : hG ad T ea f N mst bst ρ 8 = .inr (0, [.int (ρ 8 0), .ref (ad 22), .int (nI (N 2))]) := by
  have e : hG ad T ea f N mst bst ρ 8 = .inr (0, [.int (ρ 8 0), .ref (if N 2 = 0 then ea else ad 22), .int (nI (N 2))]) := rfl
  rw [e, if_neg (Nat.pos_iff_ne_zero.mp h)]
abbrev B4 (ad : Nat → Nat) (T : Nat → ClassId) (N bst : Nat → Nat) (ρ : Nat → Nat → Int32) (i : Nat) : va_W := [(ad 0, .inr (6, hsF ad (ρ 0 0))), (ad 7, .inr (0, [.int (ρ 7 0), .ref (ad 21), .int (nI (N 1))])), (ad 21, .inl (T 3, cap (N 1), qa (liF ad (fun i => 100 + 3 * i) (N 1)))), (ad (100 + 3 * i), .inr (1, biF (ad (101 + 3 * i)) (ad (102 + 3 * i)) (ad (2 + bst i)) (ρ (100 + 3 * i))))]
abbrev B7 (ad : Nat → Nat) (T : Nat → ClassId) (N bst : Nat → Nat) (ρ : Nat → Nat → Int32) (i : Nat) : va_W := B4 ad T N bst ρ i ++ [(ad (101 + 3 * i), .inl (T 0, 8, .inl (ρ (101 + 3 * i)))), (ad (102 + 3 * i), .inl (T 0, 8, .inl (ρ (102 + 3 * i)))), (ad (2 + bst i), .inr (5, [.int (ρ (2 + bst i) 0), .int (ρ (2 + bst i) 1), .int (ρ (2 + bst i) 2)]))]
theorem iw_cons (j : Nat) (js : List Nat) (G : Nat → va_E) : iw (j :: js) ad G = (ad j, G j) :: iw js ad G := rfl
theorem iw_nil (G : Nat → va_E) : iw [] ad G = [] := rfl
theorem b4_iw {i : Nat} (hi : i < 12) (h0 : 0 < N 1) : iw [0, 7, 21, 100 + 3 * i] ad (hG ad T ea f N mst bst ρ) = B4 ad T N bst ρ i := by
  rw [iw_cons, iw_cons, iw_cons, iw_cons, iw_nil, hG_b hi, hG_7 h0]
  rfl
theorem b7_iw {i : Nat} (hi : i < 12) (h0 : 0 < N 1) (hb : bst i < 4) : iw [0, 7, 21, 100 + 3 * i, 101 + 3 * i, 102 + 3 * i, 2 + bst i] ad (hG ad T ea f N mst bst ρ) = B7 ad T N bst ρ i := by
  rw [iw_cons, iw_cons, iw_cons, iw_cons, iw_cons, iw_cons, iw_cons, iw_nil, hG_b hi, hG_7 h0, hG_a hi, hG_q hi, hG_s hb]
  rfl
theorem hl_iw : iw [0, 7] ad (hG ad T ea f N mst bst ρ) = [(ad 0, .inr (6, hsF ad (ρ 0 0))), (ad 7, .inr (0, [.int (ρ 7 0), .ref (if N 1 = 0 then ea else ad 21), .int (nI (N 1))]))] := rfl
theorem cap_le {g : Nat} (h : g ≤ 20) : g ≤ cap g ∧ cap g ≤ 40000 := by
  unfold cap
  split
  · omega
  · split <;> omega
theorem nd4 {i : Nat} : [0, 7, 21, 100 + 3 * i].Nodup := by
  simp only [List.nodup_cons, List.mem_cons, List.not_mem_nil, or_false, List.nodup_nil, and_true, not_false_eq_true]
  omega
theorem nd7 {i b : Nat} (hb : b < 4) : [0, 7, 21, 100 + 3 * i, 101 + 3 * i, 102 + 3 * i, 2 + b].Nodup := by
  simp only [List.nodup_cons, List.mem_cons, List.not_mem_nil, or_false, List.nodup_nil, and_true, not_false_eq_true]
  omega
theorem li4 {i : Nat} (hi : i < N 1) : ∀ j ∈ [0, 7, 21, 100 + 3 * i], liv N j := by
  intro j hj
  simp only [List.mem_cons, List.not_mem_nil, or_false] at hj
  unfold liv
  omega
theorem li7 {i b : Nat} (hi : i < N 1) (hb : b < 4) : ∀ j ∈ [0, 7, 21, 100 + 3 * i, 101 + 3 * i, 102 + 3 * i, 2 + b], liv N j := by
  intro j hj
  simp only [List.mem_cons, List.not_mem_nil, or_false] at hj
  unfold liv
  omega
theorem li07 : ∀ j ∈ [0, 7], liv N j := by
  intro j hj
  simp only [List.mem_cons, List.not_mem_nil, or_false] at hj
  unfold liv
  omega
end CELLS
/-! the first of the steps -/
section ST1
variable {l : Launch} {D : va_G} {T : Nat → ClassId} {ea mi : Nat} {sa : Nat → Nat} {om : Nat} {am : Nat → Nat}
variable {C : Nat} {ad : Nat → Nat} {J : List Nat} {N mst bst : Nat → Nat} {ρ σ : Nat → Nat → Int32} {f : Nat → Int64}
theorem vpL (f : Nat → Int64) (x : Int64) : vp_updL f (0 : Int32).toNatClampNeg x (0 : Int32).toNatClampNeg = x := by
  unfold vp_updL
  simp
theorem bst4 (hI : Inv C J N mst bst ρ σ) {i : Nat} (hi : i < N 1) : bst i < 4 := by
  obtain ⟨mo, h1, -, -, h2⟩ := (hI.2.2.2.2.2.2.2 i hi).1
  rw [h2]
  exact (hI.2.2.1 mo h1).1
variable {cy : MethodName} {cws : List Cond} {nL : Nat} {las : List Value} {my : MethodName} {mws : List Cond} {mrm : Room} {mas : List Value} {cv : Int32 → Int64} {rm : Room} {k rv : Int32} {mc ms : Nat} {f' : Nat → Int64} {ρ' : Nat → Nat → Int32} {i : Nat}
theorem badL (hI : Inv C J N mst bst ρ σ) (hw : ZIH l cy cws rm (zX ea mi sa) D T (S := Unit) (ouW (ad 16) T f :: [(ad 0, .inr (6, hsF ad (ρ 0 0))), (ad 7, .inr (0, [.int (ρ 7 0), .ref (if N 1 = 0 then ea else ad 21), .int (nI (N 1))]))]) (fun _ => ouW (ad 16) T f :: [(ad 0, .inr (6, hsF ad (ρ 0 0))), (ad 7, .inr (0, [.int (ρ 7 0), .ref (if N 1 = 0 then ea else ad 21), .int (nI (N 1))]))]) las k 1 6)
    (hrm : rm.cells = 1 ∧ rm.slots = 6 ∧ rm.frames + 1 ≤ 11 ∧ 8 + (nL + 11) + rm.locals ≤ 404) (hk : k ≠ 0) (hm : ZI l my mws mrm D T (mW om am T σ) (mW om am T (upS σ 31 (fun _ => k))) mas rv 0 0) : StepR l D T ea mi sa cy cws nL las my mws mrm mas cv om am C ad J N mst bst ρ σ f :=
  step_bad (js := [0, 7]) hI (by decide) li07 hw hrm hk hm
theorem bad4 (hI : Inv C J N mst bst ρ σ) (hi : i < N 1) (hw : ZIH l cy cws rm (zX ea mi sa) D T (S := Unit) (ouW (ad 16) T f :: B4 ad T N bst ρ i) (fun _ => ouW (ad 16) T f :: B4 ad T N bst ρ i) las k 1 6)
    (hrm : rm.cells = 1 ∧ rm.slots = 6 ∧ rm.frames + 1 ≤ 11 ∧ 8 + (nL + 11) + rm.locals ≤ 404) (hk : k ≠ 0) (hm : ZI l my mws mrm D T (mW om am T σ) (mW om am T (upS σ 31 (fun _ => k))) mas rv 0 0) : StepR l D T ea mi sa cy cws nL las my mws mrm mas cv om am C ad J N mst bst ρ σ f := by
  have hn := hI.1.2.2.2.1
  rw [← b4_iw (f := f) (ea := ea) (mst := mst) (by omega) (by omega)] at hw
  exact step_bad (js := [0, 7, 21, 100 + 3 * i]) hI nd4 (li4 hi) hw hrm hk hm
theorem bad7 (hI : Inv C J N mst bst ρ σ) (hi : i < N 1) (hw : ZIH l cy cws rm (zX ea mi sa) D T (S := Unit) (ouW (ad 16) T f :: B7 ad T N bst ρ i) (fun _ => ouW (ad 16) T f :: B7 ad T N bst ρ i) las k 1 6)
    (hrm : rm.cells = 1 ∧ rm.slots = 6 ∧ rm.frames + 1 ≤ 11 ∧ 8 + (nL + 11) + rm.locals ≤ 404) (hk : k ≠ 0) (hm : ZI l my mws mrm D T (mW om am T σ) (mW om am T (upS σ 31 (fun _ => k))) mas rv 0 0) : StepR l D T ea mi sa cy cws nL las my mws mrm mas cv om am C ad J N mst bst ρ σ f := by
  have hn := hI.1.2.2.2.1
  rw [← b7_iw (f := f) (ea := ea) (mst := mst) (by omega) (by omega) (bst4 hI hi)] at hw
  exact step_bad hI (nd7 (bst4 hI hi)) (li7 hi (bst4 hI hi)) hw hrm hk hm
/-- it answers, and the billet's cells become those of ρ' -/
theorem ok7 (hI : Inv C J N mst bst ρ σ) (hi : i < N 1) (hw : ZIH l cy cws rm (zX ea mi sa) D T (S := Unit) (ouW (ad 16) T f :: B7 ad T N bst ρ i) (fun _ => (ad 16, .inl (T 2, 1, .inr (.inl (vp_updL f (0 : Int32).toNatClampNeg (cv rv))))) :: B7 ad T N bst ρ' i) las 0 0 0)
    (hrm : rm.cells = 0 ∧ rm.slots = 0 ∧ rm.frames + 1 ≤ 11 ∧ 8 + (nL + 11) + rm.locals ≤ 404) {σ' : Nat → Nat → Int32} (hm : ZI l my mws mrm D T (mW om am T σ) (mW om am T σ') mas rv 0 0) (h31 : σ' 31 0 = 0)
    (hr : ∀ j, j ≠ 0 → j ≠ 7 → j ≠ 21 → j ≠ 100 + 3 * i → j ≠ 101 + 3 * i → j ≠ 102 + 3 * i → j ≠ 2 + bst i → ρ' j = ρ j) (hI' : Inv (C + 1) J N mst bst ρ' σ') : StepR l D T ea mi sa cy cws nL las my mws mrm mas cv om am C ad J N mst bst ρ σ f := by
  have hn := hI.1.2.2.2.1
  have hb := bst4 hI hi
  rw [← b7_iw (f := f) (ea := ea) (mst := mst) (ρ := ρ) (by omega) (by omega) hb] at hw
  rw [← b7_iw (f := vp_updL f (0 : Int32).toNatClampNeg (cv rv)) (ea := ea) (mst := mst) (ρ := ρ') (by omega) (by omega) hb] at hw
  refine step_u (f' := vp_updL f (0 : Int32).toNatClampNeg (cv rv)) (ρ' := ρ') (σ' := fun _ : Unit => σ') hI (nd7 hb) (li7 hi hb) hw hrm ⟨by decide, by decide⟩ (fun j hj => ?_) (zI_M hm) (fun _ => h31) (fun _ => vpL _ _) (fun _ => hI')
  simp only [List.mem_cons, List.not_mem_nil, or_false, not_or] at hj
  exact hr j hj.1 hj.2.1 hj.2.2.1 hj.2.2.2.1 hj.2.2.2.2.1 hj.2.2.2.2.2.1 hj.2.2.2.2.2.2
/-- it answers, and nothing of the class is changed -/
theorem rd7 (hI : Inv C J N mst bst ρ σ) (hi : i < N 1) (hw : ZIH l cy cws rm (zX ea mi sa) D T (S := Unit) (ouW (ad 16) T f :: B7 ad T N bst ρ i) (fun _ => (ad 16, .inl (T 2, 1, .inr (.inl (vp_updL f (0 : Int32).toNatClampNeg (cv rv))))) :: B7 ad T N bst ρ i) las 0 0 0)
    (hrm : rm.cells = 0 ∧ rm.slots = 0 ∧ rm.frames + 1 ≤ 11 ∧ 8 + (nL + 11) + rm.locals ≤ 404) (hm : ZI l my mws mrm D T (mW om am T σ) (mW om am T (upS σ 31 (fun _ => 0))) mas rv 0 0) : StepR l D T ea mi sa cy cws nL las my mws mrm mas cv om am C ad J N mst bst ρ σ f :=
  ok7 hI hi hw hrm hm rfl (fun _ _ _ _ _ _ _ _ => rfl) (Inv_read (Nat.le_succ C) hI (fun j hj => upS_ne σ _ (show j ≠ 31 by omega)))
theorem liB {i : Nat} (hI : Inv C J N mst bst ρ σ) (hi : i < N 1) : i < 12 ∧ N 1 ≤ cap (N 1) ∧ cap (N 1) ≤ 40000 := ⟨Nat.lt_of_lt_of_le hi hI.1.2.2.2.1, (cap_le (Nat.le_trans hI.1.2.2.2.1 (by decide))).1, (cap_le (Nat.le_trans hI.1.2.2.2.1 (by decide))).2⟩
theorem st_area (hfl : l.stackTraces = false) (hI : Inv C J N mst bst ρ σ) (x y : Int32) : StepR l D T ea mi sa yL_area wsL_area 5 [.ref (ad 0), .int x, .int y, .ref (ad 16)] yX6_area wsX6_area (zrm 2 43) [.ref om, .int x, .int y] (fun r => r.toInt64) om am C ad J N mst bst ρ σ f := by
  have hn := hI.1.2.2.2.1
  have h5 := hI.1.2.2.2.2.2.2.1
  rcases bin_01 x 0 (σ 5 0 - 1) with hb | hb
  · have hv := bin_n0 (by omega) (h5 ▸ hb)
    have hg : gth (if bin x 0 (σ 5 0 - 1) = 0 then 0 else if bin y 0 7 = 0 then 0 else 1) 1 1 = 1 := by rw [if_pos hb]; rfl
    have hm := cm_area_bad l D T om am σ x y (by rw [hg]; decide)
    rw [hg] at hm
    exact badL hI (lk_area_1 l D T ea mi sa _ _ f x y (ch_area_b l hfl D T ea mi sa _ ad _ _ _ (N 1) x y hv) ⟨rfl, rfl⟩) ⟨rfl, rfl, by decide, by decide⟩ (by decide) hm
  · obtain ⟨i, hi, rfl⟩ := bin_n1 (by omega) (h5 ▸ hb)
    obtain ⟨i12, c1, c2⟩ := liB hI hi
    rcases bin_01 y 0 7 with hs | hs
    · have hv := bin_70 hs
      have hg : gth (if bin (nI i) 0 (σ 5 0 - 1) = 0 then 0 else if bin y 0 7 = 0 then 0 else 1) 1 1 = 1 := by rw [hb, hs]; rfl
      have hm := cm_area_bad l D T om am σ (nI i) y (by rw [hg]; decide)
      rw [hg] at hm
      exact bad4 hI hi (lk_area_1 l D T ea mi sa _ _ f (nI i) y (ch_area_s l hfl D T ea mi sa _ ad _ _ _ _ _ _ _ _ _ _ _ i hi c1 c2 (liF_at hi) y hv) ⟨rfl, rfl⟩) ⟨rfl, rfl, by decide, by decide⟩ (by decide) hm
    · obtain ⟨j, hj, rfl⟩ := bin_71 hs
      have hm := cm_area_ok l D T om am σ i j i12 hj hb hs
      have hB := hI.2.2.2.2.2.2.2 i hi
      have e : ρ (101 + 3 * i) j = σ 7 (8 * i + j) := (hB.2.2.2.2.2.2.2.2.2.2.2 j hj).1
      rw [← e] at hm
      exact rd7 hI hi (lk_area l D T ea mi sa _ _ f (nI i) (nI j) (zI_H (ch_area l D T _ ad _ _ _ _ _ _ _ _ _ _ _ _ _ _ i hi c1 c2 (liF_at hi) j hj)) ⟨rfl, rfl⟩ (fun _ _ _ => rfl) (fun _ => Nat.le_refl _)) ⟨rfl, rfl, by decide, by decide⟩ hm
end ST1
