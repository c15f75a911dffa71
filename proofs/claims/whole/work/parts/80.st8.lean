/-! ===== steps: the run, patterns, dies, steels ===== -/
section ST8
variable {l : Launch} {D : va_G} {T : Nat → ClassId} {ea mi : Nat} {sa : Nat → Nat} {om : Nat} {am : Nat → Nat}
variable {C : Nat} {ad : Nat → Nat} {J : List Nat} {N mst bst : Nat → Nat} {ρ σ : Nat → Nat → Int32} {f : Nat → Int64}
variable {i : Nat}
/-- the run: the law asks both sides without a helper -/
def StepU (l : Launch) (D : va_G) (T : Nat → ClassId) (ea mi : Nat) (sa : Nat → Nat) (om : Nat) (am : Nat → Nat) (C : Nat) (ad : Nat → Nat) (J : List Nat) (N mst bst : Nat → Nat) (ρ σ : Nat → Nat → Int32) (f : Nat → Int64) : Prop :=
  ∃ (k : Int32) (σ' : Nat → Nat → Int32) (rm : Room) (N' : Nat → Nat) (ρ' : Nat → Nat → Int32),
    ZIH l yX5_run wsX5_run rm (zX ea mi sa) D T (S := Unit) (Wk J ad T ea f N mst bst ρ) (fun _ => Wk J ad T ea f N' mst bst ρ') [.ref (ad 0)] k 0 0 ∧ (rm.cells = 0 ∧ rm.slots = 0 ∧ rm.frames + 1 ≤ 11 ∧ 8 + (1 + 11) + rm.locals ≤ 404) ∧
    ZI l yX6_run wsX6_run (zrm 3 62) D T (mW om am T σ) (mW om am T σ') [.ref om] k 0 0 ∧ Inv (C + 1) J N' mst bst ρ' σ'
theorem fr_wk0 {cy : MethodName} {cws : List Cond} (hI : Inv C J N mst bst ρ σ) {js : List Nat} (hjs : js.Nodup) (hl : ∀ j ∈ js, liv N j) {rm : Room} {k : Int32} {mc ms : Nat} {ρ' : Nat → Nat → Int32} {as : List Value}
    (h : ZIH l cy cws rm (zX ea mi sa) D T (S := Unit) (iw js ad (hG ad T ea f N mst bst ρ)) (fun _ => iw js ad (hG ad T ea f N mst bst ρ')) as k mc ms) (hr : ∀ j, j ∉ js → ρ' j = ρ j) :
    ZIH l cy cws rm (zX ea mi sa) D T (S := Unit) (Wk J ad T ea f N mst bst ρ) (fun _ => Wk J ad T ea f N mst bst ρ') as k mc ms := by
  have hJ := hI.1.1
  have hm := hI.1.2.1
  have hJl : ∀ j ∈ J, liv N j := fun j hj => (hm j).mp hj
  have a := fr_iw (zX_k ea mi sa) (S := Unit) (J := 16 :: J) (js := js) (ad := ad) (G := hG ad T ea f N mst bst ρ) (wG := fun _ => iw js ad (hG ad T ea f N mst bst ρ')) h
    (List.nodup_cons.mpr ⟨fun h => liv16 (hJl 16 h), hJ⟩) hjs (fun j hj => List.mem_cons.mpr (Or.inr ((hm j).mpr (hl j hj))))
    (fun _ => hG ad T ea f N mst bst ρ') (fun _ => []) (fun _ => (List.append_nil _).symm) (fun _ j hj hn => by unfold hG; rw [hr j hn])
  have e : (fun _ : Unit => iw (16 :: J) ad (hG ad T ea f N mst bst ρ') ++ []) = fun _ => Wk J ad T ea f N mst bst ρ' := by
    funext _
    rw [List.append_nil]
    rfl
  rw [e] at a
  exact a
theorem absd_le {x y : Int32} (hx : nbd 200 1300 x) (hy : nbd 200 1300 y) (h : y ≤ x) : absd (x - y) = x - y ∧ absd (y - x) = x - y := by
  rw [absd_btw hx hy, absd_btw hy hx]
  unfold btw
  by_cases e : y < x
  · rw [if_pos e, if_neg (fun q => absurd q (Int32.not_lt.mpr h))]
    exact ⟨rfl, rfl⟩
  · have e2 : x = y := i32_tri (fun q => absurd q (Int32.not_lt.mpr h)) e
    subst e2
    rw [if_neg e]
    exact ⟨rfl, rfl⟩
theorem add_subA (a b c : Int32) : a + (b - c) = a + b - c := by
  simp only [Int32.sub_eq_add_neg, Int32.add_assoc]
theorem st_run (_hC : C ≤ 600) (hI : Inv C J N mst bst ρ σ) : StepU l D T ea mi sa om am C ad J N mst bst ρ σ f := by
  have hJ := hI.2.2.2.2.2.2.1
  obtain ⟨j1, j2, j3, ⟨j4, j5⟩, j6, j7⟩ := id hJ
  by_cases h0 : N 4 = 0
  · have hm := cm_run_ok0 l D T om am σ (by rw [j2, h0])
    exact ⟨0, _, _, N, ρ, fr_wk0 (js := [0, 14, 15]) hI (by decide) liP (zI_H (ch_run_0 l D T (ad 0) ad (ρ 0 0) (ρ 15) (ρ 14 0) (ρ 14 1) (by rw [j3, h0]))) (fun _ _ => rfl), ⟨rfl, rfl, by decide, by decide⟩, hm, Inv_read (Nat.le_succ C) hI (fun j hj => upS_ne σ _ (show j ≠ 31 by omega))⟩
  · have hp : 0 < N 4 := Nat.pos_of_ne_zero h0
    have hm := cm_run_ok l D T om am σ (N 4) hp j1 j2
    have p0 := pl_eq hJ hp 0 hp
    have p1 := pl_eq hJ hp (N 4 - 1) (by omega)
    have hs : σ 27 0 ≤ σ 27 (N 4 - 1) := j7 0 (N 4 - 1) (Nat.zero_le _) (by omega)
    obtain ⟨a1, a2⟩ := absd_le (j6 (N 4 - 1) (by omega)).2 (j6 0 hp).2 hs
    have hw := ch_run l D T (ad 0) ad (ρ 0 0) (ρ 15) (ρ 14 0) (ρ 14 1) (N 4) j1 j3 hp
    have nb0 : nbd 200 1300 (plA (ρ 15) (N 4) (ρ 14 1) 0) := by
      rw [p0]
      split
      · exact (j6 _ (by omega)).2
      · exact (j6 _ hp).2
    have nb1 : nbd 200 1300 (plA (ρ 15) (N 4) (ρ 14 1) (N 4 - 1)) := by
      rw [p1]
      split
      · exact (j6 _ (by omega)).2
      · exact (j6 _ (by omega)).2
    have er : absd (plA (ρ 15) (N 4) (ρ 14 1) 0 - ρ 14 1) + absd (plA (ρ 15) (N 4) (ρ 14 1) (N 4 - 1) - plA (ρ 15) (N 4) (ρ 14 1) 0) = btw (σ 28 0) (if (if btw (σ 28 0) (σ 27 (N 4 - 1)) < btw (σ 28 0) (σ 27 0) then (0 : Int32) else 1) = 0 then σ 27 (N 4 - 1 - 0) else σ 27 0) + σ 27 (N 4 - 1) - σ 27 0 := by
      have e0 : absd (plA (ρ 15) (N 4) (ρ 14 1) 0 - ρ 14 1) = btw (σ 28 0) (plA (ρ 15) (N 4) (ρ 14 1) 0) := by
        generalize plA (ρ 15) (N 4) (ρ 14 1) 0 = P0 at nb0 ⊢
        rw [j4, absd_btw nb0 j5]
      have e1 : absd (plA (ρ 15) (N 4) (ρ 14 1) (N 4 - 1) - plA (ρ 15) (N 4) (ρ 14 1) 0) = σ 27 (N 4 - 1) - σ 27 0 := by
        rw [p1, p0]
        by_cases h : btw (σ 28 0) (σ 27 (N 4 - 1)) < btw (σ 28 0) (σ 27 0)
        · rw [if_pos h, if_pos rfl, if_pos rfl, Nat.sub_self, Nat.sub_zero]
          exact a2
        · rw [if_neg h, if_neg (by decide), if_neg (by decide)]
          exact a1
      rw [e0, e1, p0, add_subA]
    rw [← p1, ← er] at hm
    obtain ⟨ρ', hρ⟩ : ∃ z, z = upR ρ 14 (upd (upd (ρ 14) 0 0) 1 (plA (ρ 15) (N 4) (ρ 14 1) (N 4 - 1))) := ⟨_, rfl⟩
    have r0 : ρ' 0 = ρ 0 := by rw [hρ]; exact upR_ne _ _ (by decide)
    have r14 : ρ' 14 = upd (upd (ρ 14) 0 0) 1 (plA (ρ 15) (N 4) (ρ 14 1) (N 4 - 1)) := by rw [hρ]; exact upR_at _ _ _
    have r15 : ρ' 15 = ρ 15 := by rw [hρ]; exact upR_ne _ _ (by decide)
    have hp3 : P3 ad T ρ' = [(ad 0, .inr (6, hsF ad (ρ 0 0))), (ad 14, .inr (4, [.ref (ad 15), .int 0, .int (plA (ρ 15) (N 4) (ρ 14 1) (N 4 - 1))])), (ad 15, .inl (T 0, 12, .inl (ρ 15)))] := by
      unfold P3
      rw [r0, r14, r15]
      rfl
    have hw2 : ZIH l yX5_run wsX5_run (zrm 5 106) (zX ea mi sa) D T (S := Unit) (P3 ad T ρ) (fun _ => P3 ad T ρ') [.ref (ad 0)] (absd (plA (ρ 15) (N 4) (ρ 14 1) 0 - ρ 14 1) + absd (plA (ρ 15) (N 4) (ρ 14 1) (N 4 - 1) - plA (ρ 15) (N 4) (ρ 14 1) 0)) 0 0 := by
      rw [hp3]
      exact zI_H hw
    rw [← p3_iw (f := f) (ea := ea) (N := N) (mst := mst) (bst := bst) (ρ := ρ), ← p3_iw (f := f) (ea := ea) (N := N) (mst := mst) (bst := bst) (ρ := ρ')] at hw2
    have a9 := fr_wk0 (js := [0, 14, 15]) hI (by decide) liP hw2 (fun j hj => by
      simp only [List.mem_cons, List.not_mem_nil, or_false, not_or] at hj
      rw [hρ]
      exact upR_ne _ _ hj.2.1)
    have e9 : Wk J ad T ea f (N4 N 0) mst bst ρ' = Wk J ad T ea f N mst bst ρ' := by
      unfold Wk
      rw [hG_N4]
    rw [← e9] at a9
    refine ⟨_, _, _, N4 N 0, ρ', a9, ⟨rfl, rfl, by decide, by decide⟩, hm, ?_⟩
    rw [hρ]
    · refine Inv_J (Nat.le_succ C) hI (fun k hk => if_neg (by omega)) (fun j hj => upR_ne _ _ (by omega)) (fun k h1 h2 h3 h4 => (upS_ne _ _ (show k ≠ 31 by omega)).trans ((upS_ne _ _ h4).trans (upS_ne _ _ h2))) ?_
      exact ⟨Nat.zero_le 12, nI_0.symm, nI_0.symm, ⟨rfl, nb1⟩, fun k hk => absurd hk (Nat.not_lt_zero k), fun a b _ hb => absurd hb (Nat.not_lt_zero b)⟩
theorem Inv_P {C' : Nat} (hC : C ≤ C') {ρ' σ' : Nat → Nat → Int32} (hI : Inv C J N mst bst ρ σ) (hr : ∀ j, j < 11 ∨ 13 < j → ρ' j = ρ j) (hs : ∀ k, k < 29 → σ' k = σ k) : Inv C' J N mst bst ρ' σ' := by
  refine Inv_J hC hI (fun _ _ => rfl) (fun j hj => hr j (by omega)) (fun k h1 _ _ _ => hs k h1) ?_
  have hJ := hI.2.2.2.2.2.2.1
  unfold JIv at hJ ⊢
  rw [hs 26 (by decide), hs 27 (by decide), hs 28 (by decide), hr 14 (by omega), hr 15 (by omega)]
  exact hJ
abbrev BQ (ad : Nat → Nat) (T : Nat → ClassId) (N bst : Nat → Nat) (ρ : Nat → Nat → Int32) (i : Nat) (f0 f1 f2 : Nat → Int32) : va_W := B4 ad T N bst ρ i ++ [(ad 10, .inr (3, [.ref (ad 11), .ref (ad 12), .ref (ad 13)])), (ad 11, .inl (T 0, 256, .inl f0)), (ad 12, .inl (T 0, 256, .inl f1)), (ad 13, .inl (T 0, 256, .inl f2))]
def upP (ρ : Nat → Nat → Int32) (f0 f1 f2 : Nat → Int32) : Nat → Nat → Int32 := fun k => if k = 11 then f0 else if k = 12 then f1 else if k = 13 then f2 else ρ k
theorem upP_o {f0 f1 f2 : Nat → Int32} {k : Nat} (h : k < 11 ∨ 13 < k) : upP ρ f0 f1 f2 k = ρ k := by
  unfold upP
  rw [if_neg (by omega), if_neg (by omega), if_neg (by omega)]
theorem bq_iw (hi : i < 12) (h0 : 0 < N 1) : iw [0, 7, 21, 100 + 3 * i, 10, 11, 12, 13] ad (hG ad T ea f N mst bst ρ) = BQ ad T N bst ρ i (ρ 11) (ρ 12) (ρ 13) := by
  rw [iw_cons, iw_cons, iw_cons, iw_cons, iw_cons, iw_cons, iw_cons, iw_cons, iw_nil, hG_b hi, hG_7 h0]
  rfl
theorem okQ {cy : MethodName} {cws : List Cond} {nL : Nat} {las : List Value} {my : MethodName} {mws : List Cond} {mrm : Room} {mas : List Value} {cv : Int32 → Int64} {rm : Room} {rv : Int32} (hI : Inv C J N mst bst ρ σ) (hi : i < N 1) {f0 f1 f2 : Nat → Int32} (hw : ZIH l cy cws rm (zX ea mi sa) D T (S := Unit) (ouW (ad 16) T f :: BQ ad T N bst ρ i (ρ 11) (ρ 12) (ρ 13)) (fun _ => (ad 16, .inl (T 2, 1, .inr (.inl (vp_updL f (0 : Int32).toNatClampNeg (cv rv))))) :: BQ ad T N bst ρ i f0 f1 f2) las 0 0 0)
    (hrm : rm.cells = 0 ∧ rm.slots = 0 ∧ rm.frames + 1 ≤ 11 ∧ 8 + (nL + 11) + rm.locals ≤ 404) {S2 : Type} {σ' : S2 → Nat → Nat → Int32} (hm : ZM l my mws mrm D T (S := S2) (mW om am T σ) (fun u => mW om am T (σ' u)) mas rv) (h31 : ∀ u, σ' u 31 0 = 0) (hs : ∀ u k, k < 29 → σ' u k = σ k) : StepR l D T ea mi sa cy cws nL las my mws mrm mas cv om am C ad J N mst bst ρ σ f := by
  have hn := hI.1.2.2.2.1
  have e : BQ ad T N bst ρ i f0 f1 f2 = BQ ad T N bst (upP ρ f0 f1 f2) i (upP ρ f0 f1 f2 11) (upP ρ f0 f1 f2 12) (upP ρ f0 f1 f2 13) := by
    unfold BQ B4
    rw [upP_o (k := 0) (by omega), upP_o (k := 7) (by omega), upP_o (k := 100 + 3 * i) (by omega)]
    rfl
  rw [e] at hw
  rw [← bq_iw (f := f) (ea := ea) (mst := mst) (ρ := ρ) (by omega) (by omega)] at hw
  rw [← bq_iw (f := vp_updL f (0 : Int32).toNatClampNeg (cv rv)) (ea := ea) (mst := mst) (ρ := upP ρ f0 f1 f2) (by omega) (by omega)] at hw
  refine step_u (ρ' := upP ρ f0 f1 f2) hI (js := [0, 7, 21, 100 + 3 * i, 10, 11, 12, 13]) ?_ (fun j hj => ?_) hw hrm ⟨by decide, by decide⟩ (fun j hj => ?_) hm h31 (fun _ => vpL _ _) (fun u => Inv_P (Nat.le_succ C) hI (fun j hj => upP_o hj) (hs u))
  · simp only [List.nodup_cons, List.mem_cons, List.not_mem_nil, or_false, List.nodup_nil, and_true, not_false_eq_true]
    omega
  · simp only [List.mem_cons, List.not_mem_nil, or_false] at hj
    unfold liv
    omega
  · simp only [List.mem_cons, List.not_mem_nil, or_false, not_or] at hj
    exact upP_o (by omega)
theorem st_fewest (hfl : l.stackTraces = false) (hC : C ≤ 600) (hI : Inv C J N mst bst ρ σ) (x y : Int32) : StepR l D T ea mi sa yL_fewest wsL_fewest 5 [.ref (ad 0), .int x, .int y, .ref (ad 16)] yX6_fewest wsX6_fewest (zrm 3 71) [.ref om, .int x, .int y] (fun r => r.toInt64) om am C ad J N mst bst ρ σ f := by
  have hn := hI.1.2.2.2.1
  have h5 := hI.1.2.2.2.2.2.2.1
  rcases bin_01 x 0 (σ 5 0 - 1) with hb | hb
  · have hv := bin_n0 (by omega) (h5 ▸ hb)
    have hg : gth (bin x 0 (σ 5 0 - 1)) (bin y 0 255) 1 = 1 := by rw [hb]; rfl
    have hm := cm_fewest_bad l D T om am σ x y (by rw [hg]; decide)
    rw [hg] at hm
    exact badL hI (lk_fewest_1 l D T ea mi sa _ _ f x y (ch_fewest_b l hfl D T ea mi sa _ ad _ _ _ (N 1) x y hv) ⟨rfl, rfl⟩) ⟨rfl, rfl, by decide, by decide⟩ (by decide) hm
  · obtain ⟨i, hi, rfl⟩ := bin_n1 (by omega) (h5 ▸ hb)
    obtain ⟨i12, c1, c2⟩ := liB hI hi
    obtain ⟨⟨mo, hmo, b0, s6, bs⟩, ⟨b3, b456⟩, ⟨b7, w7⟩, ⟨b8, w8⟩, b9, ⟨b10, w10⟩, ⟨b11, w11⟩, ⟨b12, w12⟩, ⟨p9, hp9, b13, s15⟩, hld, hpt, har⟩ := hI.2.2.2.2.2.2.2 i hi
    rcases bin_01 y 0 255 with hs | hs
    · have hg : gth (bin (nI i) 0 (σ 5 0 - 1)) (bin y 0 255) 1 = 2 := by rw [hb, hs]; rfl
      have hm := cm_fewest_bad l D T om am σ (nI i) y (by rw [hg]; decide)
      rw [hg] at hm
      exact bad4 hI hi (lk_fewest_2 l D T ea mi sa _ _ f (nI i) y (ch_fewest_p l hfl D T ea mi sa _ ad _ _ _ _ _ _ _ _ _ _ _ i hi c1 c2 (liF_at hi) y (bin_n0 (n := 256) (by decide) hs)) ⟨rfl, rfl⟩) ⟨rfl, rfl, by decide, by decide⟩ (by decide) hm
    · obtain ⟨t, ht, rfl⟩ := bin_n1 (v := y) (n := 256) (by decide) hs
      have hm := cm_fewest_ok l D T om am σ i p9 t i12 hp9 ht hb hs s15
      rw [← BF_ind (ρ 11) (ρ 13) hp9 ht] at hm
      exact okQ (S2 := Unit) hI hi (lk_fewest l D T ea mi sa _ _ f (nI i) (nI t) (zI_H (ch_fewest l D T _ ad _ _ _ _ _ _ _ _ _ _ _ i hi c1 c2 (liF_at hi) (ρ 11) (ρ 12) (ρ 13) p9 t hp9 ht b13)) ⟨rfl, rfl⟩ (fun _ _ _ => rfl) (fun _ => Nat.le_refl _)) ⟨rfl, rfl, by decide, by decide⟩ (zI_M hm) (fun _ => rfl) (fun _ k hk => (upS_ne _ _ (show k ≠ 31 by omega)).trans ((upS_ne _ _ (show k ≠ 30 by omega)).trans (upS_ne _ _ (show k ≠ 29 by omega))))
abbrev E5 (ad : Nat → Nat) (T : Nat → ClassId) (N : Nat → Nat) (ρ : Nat → Nat → Int32) (d : Nat) (lf : Int32) (γ : Nat → Int32) : va_W := [(ad 0, .inr (6, hsF ad (ρ 0 0))), (ad 8, .inr (0, [.int (ρ 8 0), .ref (ad 22), .int (nI (N 2))])), (ad 22, .inl (T 3, cap (N 2), qa (liF ad (fun i => 200 + 2 * i) (N 2)))), (ad (200 + 2 * d), .inr (2, [.ref (ad (201 + 2 * d)), .int lf])), (ad (201 + 2 * d), .inl (T 0, 8, .inl γ))]
theorem d5_iw {d : Nat} (hd : d < 4) (h0 : 0 < N 2) : iw [0, 8, 22, 200 + 2 * d, 201 + 2 * d] ad (hG ad T ea f N mst bst ρ) = E5 ad T N ρ d (ρ (200 + 2 * d) 0) (ρ (201 + 2 * d)) := by
  rw [iw_cons, iw_cons, iw_cons, iw_cons, iw_cons, iw_nil, hG_d hd, hG_8 h0, hG_e hd]
  rfl
theorem li5 {d : Nat} (hd : d < N 2) : ∀ j ∈ [0, 8, 22, 200 + 2 * d, 201 + 2 * d], liv N j := by
  intro j hj
  simp only [List.mem_cons, List.not_mem_nil, or_false] at hj
  unfold liv
  omega
theorem nd5 {d : Nat} : [0, 8, 22, 200 + 2 * d, 201 + 2 * d].Nodup := by
  simp only [List.nodup_cons, List.mem_cons, List.not_mem_nil, or_false, List.nodup_nil, and_true, not_false_eq_true]
  omega
def upD (ρ : Nat → Nat → Int32) (d : Nat) (lf : Int32) (γ : Nat → Int32) : Nat → Nat → Int32 := fun k => if k = 200 + 2 * d then (fun _ => lf) else if k = 201 + 2 * d then γ else ρ k
theorem upD_o {d : Nat} {lf : Int32} {γ : Nat → Int32} {k : Nat} (h1 : k ≠ 200 + 2 * d) (h2 : k ≠ 201 + 2 * d) : upD ρ d lf γ k = ρ k := by
  unfold upD
  rw [if_neg h1, if_neg h2]
theorem Inv_D {C' : Nat} (hC : C ≤ C') {d : Nat} (hd : d < N 2) {ρ' σ' : Nat → Nat → Int32} (hI : Inv C J N mst bst ρ σ) (hr : ∀ j, j ≠ 200 + 2 * d → j ≠ 201 + 2 * d → ρ' j = ρ j) (hs : ∀ k, k < 29 → k ≠ 22 → k ≠ 23 → σ' k = σ k) (h23 : ∀ d', d' ≠ d → σ' 23 d' = σ 23 d') (h22 : ∀ d' j, d' ≠ d → j < 8 → σ' 22 (8 * d' + j) = σ 22 (8 * d' + j))
    (hD : (ρ' (200 + 2 * d) 0 = σ' 23 d ∧ bnd 100 (σ' 23 d)) ∧ ∀ j, j < 8 → ρ' (201 + 2 * d) j = σ' 22 (8 * d + j) ∧ nbd 1 400 (σ' 22 (8 * d + j))) : Inv C' J N mst bst ρ' σ' := by
  obtain ⟨h1, h2, h3, h4, h5, h6, h7, h8⟩ := hI
  have hn := h1.2.2.2.1
  refine ⟨?_, ?_, ?_, ?_, ?_, fun d' hd' => ?_, ?_, fun i hi => ?_⟩
  · unfold CIv at h1 ⊢
    rw [hs 3 (by decide) (by decide) (by decide), hs 5 (by decide) (by decide) (by decide), hs 21 (by decide) (by decide) (by decide)]
    exact h1
  · unfold SIv at h2 ⊢
    rw [hs 0 (by decide) (by decide) (by decide), hs 1 (by decide) (by decide) (by decide), hs 2 (by decide) (by decide) (by decide)]
    exact fun s hs9 => by rw [hr (2 + s) (by omega) (by omega)]; exact h2 s hs9
  · unfold MIv at h3 ⊢
    rw [hs 4 (by decide) (by decide) (by decide)]
    exact h3
  · unfold LIv at h4 ⊢
    rw [hs 24 (by decide) (by decide) (by decide), hs 25 (by decide) (by decide) (by decide), hr 0 (by omega) (by omega), hr 9 (by omega) (by omega)]
    exact h4
  · unfold ZIv at h5 ⊢
    rw [hs 12 (by decide) (by decide) (by decide), hs 13 (by decide) (by decide) (by decide), hs 14 (by decide) (by decide) (by decide), hs 17 (by decide) (by decide) (by decide), hs 18 (by decide) (by decide) (by decide), hs 20 (by decide) (by decide) (by decide), hs 8 (by decide) (by decide) (by decide)]
    exact h5
  · by_cases e : d' = d
    · subst e
      exact hD
    · rw [hr (200 + 2 * d') (by omega) (by omega), hr (201 + 2 * d') (by omega) (by omega), h23 d' e]
      exact ⟨(h6 d' hd').1, fun j hj => by rw [h22 d' j e hj]; exact (h6 d' hd').2 j hj⟩
  · unfold JIv at h7 ⊢
    rw [hs 26 (by decide) (by decide) (by decide), hs 27 (by decide) (by decide) (by decide), hs 28 (by decide) (by decide) (by decide), hr 14 (by omega) (by omega), hr 15 (by omega) (by omega)]
    exact h7
  · rw [hr (100 + 3 * i) (by omega) (by omega), hr (101 + 3 * i) (by omega) (by omega), hr (102 + 3 * i) (by omega) (by omega)]
    exact BIv_sig (BIv_le hC (h8 i hi)) (fun k hk => by rw [hs k (by omega) (by omega) (by omega)]) (fun k j hk hj => by rw [hs k (by omega) (by omega) (by omega)])
theorem okD {cy : MethodName} {cws : List Cond} {nL : Nat} {las : List Value} {my : MethodName} {mws : List Cond} {mrm : Room} {mas : List Value} {cv : Int32 → Int64} {rm : Room} {rv : Int32} {d : Nat} (hI : Inv C J N mst bst ρ σ) (hd : d < N 2) {lf : Int32} {γ : Nat → Int32} (hw : ZIH l cy cws rm (zX ea mi sa) D T (S := Unit) (ouW (ad 16) T f :: E5 ad T N ρ d (ρ (200 + 2 * d) 0) (ρ (201 + 2 * d))) (fun _ => (ad 16, .inl (T 2, 1, .inr (.inl (vp_updL f (0 : Int32).toNatClampNeg (cv rv))))) :: E5 ad T N ρ d lf γ) las 0 0 0)
    (hrm : rm.cells = 0 ∧ rm.slots = 0 ∧ rm.frames + 1 ≤ 11 ∧ 8 + (nL + 11) + rm.locals ≤ 404) {σ' : Nat → Nat → Int32} (hm : ZI l my mws mrm D T (mW om am T σ) (mW om am T σ') mas rv 0 0) (h31 : σ' 31 0 = 0) (hs : ∀ k, k < 29 → k ≠ 22 → k ≠ 23 → σ' k = σ k) (h23 : ∀ d', d' ≠ d → σ' 23 d' = σ 23 d') (h22 : ∀ d' j, d' ≠ d → j < 8 → σ' 22 (8 * d' + j) = σ 22 (8 * d' + j))
    (hD : (lf = σ' 23 d ∧ bnd 100 (σ' 23 d)) ∧ ∀ j, j < 8 → γ j = σ' 22 (8 * d + j) ∧ nbd 1 400 (σ' 22 (8 * d + j))) : StepR l D T ea mi sa cy cws nL las my mws mrm mas cv om am C ad J N mst bst ρ σ f := by
  have hn := hI.1.2.2.2.2.1
  have ea' : upD ρ d lf γ (200 + 2 * d) = fun _ => lf := if_pos rfl
  have eb' : upD ρ d lf γ (201 + 2 * d) = γ := by
    unfold upD
    rw [if_neg (by omega), if_pos rfl]
  have e : E5 ad T N ρ d lf γ = E5 ad T N (upD ρ d lf γ) d (upD ρ d lf γ (200 + 2 * d) 0) (upD ρ d lf γ (201 + 2 * d)) := by
    unfold E5
    rw [ea', eb', upD_o (k := 0) (by omega) (by omega), upD_o (k := 8) (by omega) (by omega)]
  rw [e] at hw
  rw [← d5_iw (f := f) (ea := ea) (mst := mst) (bst := bst) (ρ := ρ) (by omega) (by omega)] at hw
  rw [← d5_iw (f := vp_updL f (0 : Int32).toNatClampNeg (cv rv)) (ea := ea) (mst := mst) (bst := bst) (ρ := upD ρ d lf γ) (by omega) (by omega)] at hw
  refine step_u (ρ' := upD ρ d lf γ) (σ' := fun _ : Unit => σ') hI nd5 (li5 hd) hw hrm ⟨by decide, by decide⟩ (fun j hj => ?_) (zI_M hm) (fun _ => h31) (fun _ => vpL _ _) (fun _ => Inv_D (Nat.le_succ C) hd hI (fun j h1 h2 => upD_o h1 h2) hs h23 h22 ⟨by rw [ea']; exact hD.1, fun j hj => by rw [eb']; exact hD.2 j hj⟩)
  simp only [List.mem_cons, List.not_mem_nil, or_false, not_or] at hj
  exact upD_o hj.2.2.2.1 hj.2.2.2.2
theorem badD {cy : MethodName} {cws : List Cond} {nL : Nat} {las : List Value} {my : MethodName} {mws : List Cond} {mrm : Room} {mas : List Value} {cv : Int32 → Int64} {rm : Room} {k rv : Int32} {d : Nat} (hI : Inv C J N mst bst ρ σ) (hd : d < N 2) (hw : ZIH l cy cws rm (zX ea mi sa) D T (S := Unit) (ouW (ad 16) T f :: [(ad 0, .inr (6, hsF ad (ρ 0 0))), (ad 8, .inr (0, [.int (ρ 8 0), .ref (ad 22), .int (nI (N 2))])), (ad 22, .inl (T 3, cap (N 2), qa (liF ad (fun i => 200 + 2 * i) (N 2)))), (ad (200 + 2 * d), .inr (2, [.ref (ad (201 + 2 * d)), .int (ρ (200 + 2 * d) 0)]))]) (fun _ => ouW (ad 16) T f :: [(ad 0, .inr (6, hsF ad (ρ 0 0))), (ad 8, .inr (0, [.int (ρ 8 0), .ref (ad 22), .int (nI (N 2))])), (ad 22, .inl (T 3, cap (N 2), qa (liF ad (fun i => 200 + 2 * i) (N 2)))), (ad (200 + 2 * d), .inr (2, [.ref (ad (201 + 2 * d)), .int (ρ (200 + 2 * d) 0)]))]) las k 1 6)
    (hrm : rm.cells = 1 ∧ rm.slots = 6 ∧ rm.frames + 1 ≤ 11 ∧ 8 + (nL + 11) + rm.locals ≤ 404) (hk : k ≠ 0) (hm : ZI l my mws mrm D T (mW om am T σ) (mW om am T (upS σ 31 (fun _ => k))) mas rv 0 0) : StepR l D T ea mi sa cy cws nL las my mws mrm mas cv om am C ad J N mst bst ρ σ f := by
  have hn := hI.1.2.2.2.2.1
  have e : iw [0, 8, 22, 200 + 2 * d] ad (hG ad T ea f N mst bst ρ) = [(ad 0, .inr (6, hsF ad (ρ 0 0))), (ad 8, .inr (0, [.int (ρ 8 0), .ref (ad 22), .int (nI (N 2))])), (ad 22, .inl (T 3, cap (N 2), qa (liF ad (fun i => 200 + 2 * i) (N 2)))), (ad (200 + 2 * d), .inr (2, [.ref (ad (201 + 2 * d)), .int (ρ (200 + 2 * d) 0)]))] := by
    rw [iw_cons, iw_cons, iw_cons, iw_cons, iw_nil, hG_d (by omega), hG_8 (by omega)]
    rfl
  rw [← e] at hw
  refine step_bad (js := [0, 8, 22, 200 + 2 * d]) hI ?_ (fun j hj => li5 hd j ?_) hw hrm hk hm
  · simp only [List.nodup_cons, List.mem_cons, List.not_mem_nil, or_false, List.nodup_nil, and_true, not_false_eq_true]
    omega
  · simp only [List.mem_cons, List.not_mem_nil, or_false] at hj ⊢
    omega
theorem badE {cy : MethodName} {cws : List Cond} {nL : Nat} {las : List Value} {my : MethodName} {mws : List Cond} {mrm : Room} {mas : List Value} {cv : Int32 → Int64} {rm : Room} {k rv : Int32} (hI : Inv C J N mst bst ρ σ) (hw : ZIH l cy cws rm (zX ea mi sa) D T (S := Unit) (ouW (ad 16) T f :: [(ad 0, .inr (6, hsF ad (ρ 0 0))), (ad 8, .inr (0, [.int (ρ 8 0), .ref (if N 2 = 0 then ea else ad 22), .int (nI (N 2))]))]) (fun _ => ouW (ad 16) T f :: [(ad 0, .inr (6, hsF ad (ρ 0 0))), (ad 8, .inr (0, [.int (ρ 8 0), .ref (if N 2 = 0 then ea else ad 22), .int (nI (N 2))]))]) las k 1 6)
    (hrm : rm.cells = 1 ∧ rm.slots = 6 ∧ rm.frames + 1 ≤ 11 ∧ 8 + (nL + 11) + rm.locals ≤ 404) (hk : k ≠ 0) (hm : ZI l my mws mrm D T (mW om am T σ) (mW om am T (upS σ 31 (fun _ => k))) mas rv 0 0) : StepR l D T ea mi sa cy cws nL las my mws mrm mas cv om am C ad J N mst bst ρ σ f :=
  step_bad (js := [0, 8]) hI (by decide) (fun j hj => by simp only [List.mem_cons, List.not_mem_nil, or_false] at hj; unfold liv; omega) hw hrm hk hm
abbrev D4 (ad : Nat → Nat) (T : Nat → ClassId) (N : Nat → Nat) (ρ : Nat → Nat → Int32) (d : Nat) (lf : Int32) : va_W := [(ad 0, .inr (6, hsF ad (ρ 0 0))), (ad 8, .inr (0, [.int (ρ 8 0), .ref (ad 22), .int (nI (N 2))])), (ad 22, .inl (T 3, cap (N 2), qa (liF ad (fun i => 200 + 2 * i) (N 2)))), (ad (200 + 2 * d), .inr (2, [.ref (ad (201 + 2 * d)), .int lf]))]
theorem d4_iw {d : Nat} (hd : d < 4) (h0 : 0 < N 2) : iw [0, 8, 22, 200 + 2 * d] ad (hG ad T ea f N mst bst ρ) = D4 ad T N ρ d (ρ (200 + 2 * d) 0) := by
  rw [iw_cons, iw_cons, iw_cons, iw_cons, iw_nil, hG_d hd, hG_8 h0]
  rfl
theorem okD4 {cy : MethodName} {cws : List Cond} {nL : Nat} {las : List Value} {my : MethodName} {mws : List Cond} {mrm : Room} {mas : List Value} {cv : Int32 → Int64} {rm : Room} {rv : Int32} {d : Nat} (hI : Inv C J N mst bst ρ σ) (hd : d < N 2) {lf : Int32} (hw : ZIH l cy cws rm (zX ea mi sa) D T (S := Unit) (ouW (ad 16) T f :: D4 ad T N ρ d (ρ (200 + 2 * d) 0)) (fun _ => (ad 16, .inl (T 2, 1, .inr (.inl (vp_updL f (0 : Int32).toNatClampNeg (cv rv))))) :: D4 ad T N ρ d lf) las 0 0 0)
    (hrm : rm.cells = 0 ∧ rm.slots = 0 ∧ rm.frames + 1 ≤ 11 ∧ 8 + (nL + 11) + rm.locals ≤ 404) {σ' : Nat → Nat → Int32} (hm : ZI l my mws mrm D T (mW om am T σ) (mW om am T σ') mas rv 0 0) (h31 : σ' 31 0 = 0) (hs : ∀ k, k < 29 → k ≠ 23 → σ' k = σ k) (h23 : ∀ d', d' ≠ d → σ' 23 d' = σ 23 d')
    (hD : lf = σ' 23 d ∧ bnd 100 (σ' 23 d)) : StepR l D T ea mi sa cy cws nL las my mws mrm mas cv om am C ad J N mst bst ρ σ f := by
  have hn := hI.1.2.2.2.2.1
  have e : D4 ad T N ρ d lf = D4 ad T N (upR ρ (200 + 2 * d) (fun _ => lf)) d (upR ρ (200 + 2 * d) (fun _ => lf) (200 + 2 * d) 0) := by
    unfold D4
    rw [upR_at, upR_ne ρ (k := 0) _ (by omega), upR_ne ρ (k := 8) _ (by omega)]
  rw [e] at hw
  rw [← d4_iw (f := f) (ea := ea) (mst := mst) (bst := bst) (ρ := ρ) (by omega) (by omega)] at hw
  rw [← d4_iw (f := vp_updL f (0 : Int32).toNatClampNeg (cv rv)) (ea := ea) (mst := mst) (bst := bst) (ρ := upR ρ (200 + 2 * d) (fun _ => lf)) (by omega) (by omega)] at hw
  refine step_u (ρ' := upR ρ (200 + 2 * d) (fun _ => lf)) (σ' := fun _ : Unit => σ') hI ?_ (fun j hj => li5 hd j ?_) hw hrm ⟨by decide, by decide⟩ (fun j hj => ?_) (zI_M hm) (fun _ => h31) (fun _ => vpL _ _) (fun _ => Inv_D (Nat.le_succ C) hd hI (fun j h1 h2 => upR_ne _ _ h1) (fun k h1 _ h3 => hs k h1 h3) h23 (fun d' j' _ _ => by rw [hs 22 (by decide) (by decide)]) ⟨by rw [upR_at]; exact hD, fun j hj => by rw [upR_ne _ _ (by omega), hs 22 (by decide) (by decide)]; exact (hI.2.2.2.2.2.1 d hd).2 j hj⟩)
  · simp only [List.nodup_cons, List.mem_cons, List.not_mem_nil, or_false, List.nodup_nil, and_true, not_false_eq_true]
    omega
  · simp only [List.mem_cons, List.not_mem_nil, or_false] at hj ⊢
    omega
  · simp only [List.mem_cons, List.not_mem_nil, or_false, not_or] at hj
    exact upR_ne _ _ hj.2.2.2
theorem st_sink (hfl : l.stackTraces = false) (hC : C ≤ 600) (hI : Inv C J N mst bst ρ σ) (x : Int32) : StepR l D T ea mi sa yL_sink wsL_sink 4 [.ref (ad 0), .int x, .ref (ad 16)] yX6_sink wsX6_sink (zrm 2 43) [.ref om, .int x] (fun r => r.toInt64) om am C ad J N mst bst ρ σ f := by
  have hn := hI.1.2.2.2.2.1
  have h21 := hI.1.2.2.2.2.2.2.2
  rcases bin_01 x 0 (σ 21 0 - 1) with hb | hb
  · have hv := bin_n0 (by omega) (h21 ▸ hb)
    have hg : gth (bin x 0 (σ 21 0 - 1)) 1 1 = 1 := by rw [hb]; rfl
    have hm := cm_sink_bad l D T om am σ x (by rw [hg]; decide)
    rw [hg] at hm
    exact badE hI (lk_sink_1 l D T ea mi sa _ _ f x (ch_sink_b l hfl D T ea mi sa _ ad _ _ _ (N 2) x hv) ⟨rfl, rfl⟩) ⟨rfl, rfl, by decide, by decide⟩ (by decide) hm
  · obtain ⟨d, hd, rfl⟩ := bin_n1 (by omega) (h21 ▸ hb)
    obtain ⟨⟨d1, d2⟩, d3⟩ := hI.2.2.2.2.2.1 d hd
    have c1 := (cap_le (g := N 2) (by omega)).1
    have c2 := (cap_le (g := N 2) (by omega)).2
    have hm := cm_sink_ok l D T om am σ d (by omega) hb
    rw [← d1] at hm
    exact okD4 hI hd (lk_sink l D T ea mi sa _ _ f (nI d) (zI_H (ch_sink l D T _ ad _ _ _ _ _ _ _ _ _ d hd c1 c2 (liF_at hd))) ⟨rfl, rfl⟩ (fun _ _ _ => rfl) (fun _ => Nat.le_refl _)) ⟨rfl, rfl, by decide, by decide⟩ hm rfl
      (fun k h1 h3 => (upS_ne _ _ (show k ≠ 31 by omega)).trans (upS_ne _ _ h3)) (fun d' hne => upd_ne _ _ hne) ⟨(show (100 : Int32) = upd (σ 23) d 100 d from (upd_same _ _ _).symm), (by rw [show (upS (upS σ 23 (upd (σ 23) d 100)) 31 (fun _ => 0)) 23 d = 100 from upd_same _ _ _]; exact ⟨100, Nat.le_refl _, rfl⟩)⟩
theorem st_shape (hfl : l.stackTraces = false) (hC : C ≤ 600) (hI : Inv C J N mst bst ρ σ) (x y z : Int32) : StepR l D T ea mi sa yL_shape wsL_shape 6 [.ref (ad 0), .int x, .int y, .int z, .ref (ad 16)] yX6_shape wsX6_shape (zrm 2 43) [.ref om, .int x, .int y, .int z] (fun r => r.toInt64) om am C ad J N mst bst ρ σ f := by
  have hn := hI.1.2.2.2.2.1
  have h21 := hI.1.2.2.2.2.2.2.2
  rcases bin_01 x 0 (σ 21 0 - 1) with hb | hb
  · have hv := bin_n0 (by omega) (h21 ▸ hb)
    have hg : gth (if bin x 0 (σ 21 0 - 1) = 0 then 0 else if bin y 0 7 = 0 then 0 else 1) (bin z 1 400) 1 = 1 := by rw [hb]; rfl
    have hm := cm_shape_bad l D T om am σ x y z (by rw [hg]; decide)
    rw [hg] at hm
    exact badE hI (lk_shape_1 l D T ea mi sa _ _ f x y z (ch_shape_b l hfl D T ea mi sa _ ad _ _ _ (N 2) x y z hv) ⟨rfl, rfl⟩) ⟨rfl, rfl, by decide, by decide⟩ (by decide) hm
  · obtain ⟨d, hd, rfl⟩ := bin_n1 (by omega) (h21 ▸ hb)
    obtain ⟨⟨d1, d2⟩, d3⟩ := hI.2.2.2.2.2.1 d hd
    have c1 := (cap_le (g := N 2) (by omega)).1
    have c2 := (cap_le (g := N 2) (by omega)).2
    rcases bin_01 y 0 7 with hs | hs
    · have hg : gth (if bin (nI d) 0 (σ 21 0 - 1) = 0 then 0 else if bin y 0 7 = 0 then 0 else 1) (bin z 1 400) 1 = 1 := by rw [hb, hs]; rfl
      have hm := cm_shape_bad l D T om am σ (nI d) y z (by rw [hg]; decide)
      rw [hg] at hm
      exact badD hI hd (lk_shape_1 l D T ea mi sa _ _ f (nI d) y z (ch_shape_s l hfl D T ea mi sa _ ad _ _ _ _ _ _ _ _ _ d hd c1 c2 (liF_at hd) y z (bin_70 hs)) ⟨rfl, rfl⟩) ⟨rfl, rfl, by decide, by decide⟩ (by decide) hm
    · obtain ⟨j, hj, rfl⟩ := bin_71 hs
      rcases bin_01 z 1 400 with hz | hz
      · have hg : gth (if bin (nI d) 0 (σ 21 0 - 1) = 0 then 0 else if bin (nI j) 0 7 = 0 then 0 else 1) (bin z 1 400) 1 = 2 := by rw [hb, hs, hz]; rfl
        have hm := cm_shape_bad l D T om am σ (nI d) (nI j) z (by rw [hg]; decide)
        rw [hg] at hm
        exact badD hI hd (lk_shape_2 l D T ea mi sa _ _ f (nI d) (nI j) z (ch_shape_a l hfl D T ea mi sa _ ad _ _ _ _ _ _ _ _ _ d hd c1 c2 (liF_at hd) j hj z (bin0.mp hz)) ⟨rfl, rfl⟩) ⟨rfl, rfl, by decide, by decide⟩ (by decide) hm
      · obtain ⟨z1, z2⟩ := bin_k1 hz
        obtain ⟨nz, nz1, nz2, nz3⟩ := nat_of (hi := 400) (by decide) z1 z2
        have hm := cm_shape_ok l D T om am σ d j z (by omega) hj hb hs hz
        rw [← (d3 j hj).1] at hm
        exact okD hI hd (lk_shape l D T ea mi sa _ _ f (nI d) (nI j) z (zI_H (ch_shape l D T _ ad _ _ _ _ _ _ _ _ _ _ d hd c1 c2 (liF_at hd) j hj z z1 z2)) ⟨rfl, rfl⟩ (fun _ _ _ => rfl) (fun _ => Nat.le_refl _)) ⟨rfl, rfl, by decide, by decide⟩ hm rfl
          (fun k h1 h2 h3 => (upS_ne _ _ (show k ≠ 31 by omega)).trans (upS_ne _ _ h2)) (fun _ _ => rfl) (fun d' j' hne hj' => upd_ne _ _ (show 8 * d' + j' ≠ 8 * d + j by omega)) ⟨⟨d1, d2⟩, fun j9 hj9 => (by
            by_cases e : j9 = j
            · subst e
              refine ⟨(upd_same _ _ _).trans (upd_same _ _ _).symm, ?_⟩
              rw [show (upS (upS σ 22 (upd (σ 22) (8 * d + j9) z)) 31 (fun _ => 0)) 22 (8 * d + j9) = z from upd_same _ _ _]
              exact ⟨nz, nz1, nz2, nz3⟩
            · have e9 : (upS (upS σ 22 (upd (σ 22) (8 * d + j) z)) 31 (fun _ => 0)) 22 (8 * d + j9) = σ 22 (8 * d + j9) := upd_ne _ _ (show 8 * d + j9 ≠ 8 * d + j by omega)
              rw [e9]
              exact ⟨(upd_ne _ _ e).trans (d3 j9 hj9).1, (d3 j9 hj9).2⟩)⟩
end ST8
