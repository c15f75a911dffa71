/-! ===== steps: the quench, the call ===== -/
section QUENCH2
variable {l : Launch} {D : va_G} {T : Nat → ClassId} {ea mi : Nat} {sa : Nat → Nat} {om : Nat} {am : Nat → Nat}
variable {C : Nat} {ad : Nat → Nat} {J : List Nat} {N mst bst : Nat → Nat} {ρ σ : Nat → Nat → Int32} {f : Nat → Int64}

theorem hG_Nq {f9 : Nat → Int64} {r9 : Nat → Nat → Int32} : hG ad T ea f9 (Nq N) mst bst r9 = hG ad T ea f9 N mst bst r9 := rfl
theorem fst_iw {K : List Nat} {G : Nat → va_E} : (iw K ad G).map Prod.fst = K.map ad := by
  unfold iw
  rw [List.map_map]
  rfl
theorem len_iw {K : List Nat} {G : Nat → va_E} : (iw K ad G).length = K.length := by
  unfold iw
  rw [List.length_map]
theorem st_quench (hfl : l.stackTraces = false) (hC : C ≤ 600) (hI : Inv C J N mst bst ρ σ) (x y : Int32) : StepR l D T ea mi sa yL_quench wsL_quench 5 [.ref (ad 0), .int x, .int y, .ref (ad 16)] yX6_quench wsX6_quench (zrm 2 49) [.ref om, .int x, .int y] (fun r => r.toInt64) om am C ad J N mst bst ρ σ f := by
  have hJ := hI.1.1
  have hmm := hI.1.2.1
  have hn1 := hI.1.2.2.2.1
  have h5 := hI.1.2.2.2.2.2.2.1
  obtain ⟨l1, l2, l3, l4⟩ := id hI.2.2.2.1
  have hb4 : ∀ i, i < N 1 → bst i < 4 := fun i hi => bst4 hI hi
  by_cases hset : ¬ x = 0 ∧ ush x (nI (N 1)) = 0
  · obtain ⟨g1, g2⟩ := (set_ok hn1).mp hset
    rcases bin_01 y 0 1 with hy | hy
    · have hm := cm_quench_b1 l D T om am σ (N 1) x y h5 (fun q => q.2.2 hy)
      exact badL hI (lk_quench_1 l D T ea mi sa _ (ad 16) f x y (ch_quench_a l hfl D T ea mi sa (ad 0) ad (ρ 0 0) (ρ 7 0) (if N 1 = 0 then ea else ad 21) 0 (N 1) (liF ad (fun i => 100 + 3 * i) (N 1)) x y (Or.inr (Or.inr (kd_no (bin0.mp hy))))) ⟨rfl, rfl⟩) ⟨rfl, rfl, by decide, by decide⟩ (by decide) hm
    · have hyo := kd_or hy
      obtain ⟨nx, hnx, hx9⟩ := zI_of (v := x) (fun q => absurd (Int32.lt_trans q g1) Int32.lt_irrefl)
      have hpos : 0 < N 1 := Nat.pos_of_ne_zero (fun e => by
        have e2 := hset.2
        rw [e, hx9, ush_n hnx (by decide)] at e2
        rw [Nat.pow_zero, Nat.div_one] at e2
        exact hset.1 (hx9.trans e2))
      have c1 := (cap_le (g := N 1) (by omega)).1
      have c2 := (cap_le (g := N 1) (by omega)).2
      have hsh : ∀ i, i < 13 → ush x (nI i) = x >>> (nI i &&& 31) := fun i hi => by rw [hx9, ush_n hnx hi, sh_n hnx hi]
      have hbit : ∀ i, i < N 1 → (ush x (nI i) &&& 1 = 0 ↔ ¬ (x >>> (nI i &&& 31)) &&& 1 = 1) := fun i hi => by
        rw [hsh i (by omega)]
        constructor
        · intro q q2
          rw [q] at q2
          exact absurd q2 (by decide)
        · intro q
          exact (and1_01 _).resolve_right q
      obtain ⟨Jq, hJq9⟩ : ∃ q, q = J.filter (fun j => decide (j ≠ 0 ∧ j ≠ 7 ∧ j ≠ 21)) := ⟨_, rfl⟩
      have mJq : ∀ j, j ∈ Jq ↔ j ∈ J ∧ j ≠ 0 ∧ j ≠ 7 ∧ j ≠ 21 := fun j => by
        rw [hJq9, List.mem_filter, decide_eq_true_iff]
      have hJq : Jq.Nodup := by
        rw [hJq9]
        exact hJ.filter _
      have hq0 : ∀ i, i < N 1 → 100 + 3 * i ∈ Jq ∧ 101 + 3 * i ∈ Jq ∧ 102 + 3 * i ∈ Jq ∧ 2 + bst i ∈ Jq := fun i hi => by
        have hb9 := hb4 i hi
        rw [mJq, mJq, mJq, mJq, hmm, hmm, hmm, hmm]
        unfold liv
        omega
      have hnd : ([0, 7, 21] ++ Jq).Nodup := by
        refine List.nodup_append.mpr ⟨by decide, hJq, fun a ha b hb e => ?_⟩
        have hl := (mJq b).mp hb
        simp only [List.mem_cons, List.not_mem_nil, or_false] at ha
        omega
      have hlv : ∀ j ∈ [0, 7, 21] ++ Jq, liv N j := by
        intro j hj
        rcases List.mem_append.mp hj with q | q
        · simp only [List.mem_cons, List.not_mem_nil, or_false] at q
          unfold liv
          omega
        · exact (hmm j).mp ((mJq j).mp q).1
      have hB8 : ∀ i, i < N 1 → ρ (100 + 3 * i) 8 = σ 10 i ∧ ρ (100 + 3 * i) 12 = σ 14 i := fun i hi => ⟨(hI.2.2.2.2.2.2.2 i hi).2.2.2.1.1, (hI.2.2.2.2.2.2.2 i hi).2.2.2.2.2.2.2.1.1⟩
      have hcq : (¬ cbq (fun i => ρ (100 + 3 * i)) x (N 1) 0 = 0) ↔ ∀ k, k < N 1 → okQ9 (σ 10) (σ 14) (fun k => (x >>> (nI k &&& 31)) &&& 1) k := by
        rw [cbq_iff]
        constructor
        · intro h k hk
          have q : ush x (nI k) &&& 1 = 0 ∨ (¬ ρ (100 + 3 * k) 8 < 800 ∧ ρ (100 + 3 * k) 12 = 0) := h k (Nat.zero_le _) (by omega)
          show (x >>> (nI k &&& 31)) &&& 1 = 0 ∨ (¬ σ 10 k < 800 ∧ σ 14 k = 0)
          rw [(hB8 k hk).1, (hB8 k hk).2, hsh k (by omega)] at q
          exact q
        · intro h k _ hk
          have q : (x >>> (nI k &&& 31)) &&& 1 = 0 ∨ (¬ σ 10 k < 800 ∧ σ 14 k = 0) := h k (by omega)
          show ush x (nI k) &&& 1 = 0 ∨ (¬ ρ (100 + 3 * k) 8 < 800 ∧ ρ (100 + 3 * k) 12 = 0)
          rw [(hB8 k (by omega)).1, (hB8 k (by omega)).2, hsh k (by omega)]
          exact q
      have hCQ := cqB_iff (σ 10) (σ 14) x (if σ 24 0 < 20 then 1 else 0) (N 1)
      have e1 : iw ([0, 7, 21] ++ Jq) ad (hG ad T ea f N mst bst ρ) = [(ad 0, .inr (6, hsF ad (nI (N 3)))), (ad 7, .inr (0, [.int (ρ 7 0), .ref (ad 21), .int (nI (N 1))])), (ad 21, .inl (T 3, cap (N 1), qa (liF ad (fun i => 100 + 3 * i) (N 1))))] ++ iw Jq ad (hG ad T ea f N mst bst ρ) := by
        show (ad 0, (Sum.inr (6, hsF ad (ρ 0 0)) : va_E)) :: (ad 7, hG ad T ea f N mst bst ρ 7) :: (ad 21, hG ad T ea f N mst bst ρ 21) :: iw Jq ad (hG ad T ea f N mst bst ρ) = _
        rw [hG_7 hpos, l3]
        rfl
      by_cases hq : cbq (fun i => ρ (100 + 3 * i)) x (N 1) 0 = 0
      · have hm := cm_quench_b2 l D T om am σ (N 1) x y hn1 h5 g1 g2 hy (Classical.byContradiction (fun z => (hcq.mpr (hCQ.mp z).2) hq))
        have hM : ZB l yX5_quench wsX5_quench (zrmc 6 87 1 6) (zW ea mi sa) D T ((ad 0, .inr (6, hsF ad (nI (N 3)))) :: ([(ad 7, .inr (0, [.int (ρ 7 0), .ref (ad 21), .int (nI (N 1))])), (ad 21, .inl (T 3, cap (N 1), qa (liF ad (fun i => 100 + 3 * i) (N 1))))] ++ iw Jq ad (hG ad T ea f N mst bst ρ))) [.ref (ad 0), .int x, .int y] "java/lang/IllegalStateException" := ch_quench_q l hfl D T ea mi sa (ad 0) ad (ρ 7 0) (ad 21) (cap (N 1)) (N 1) (liF ad (fun i => 100 + 3 * i) (N 1)) (nI (N 3)) x c1 c2 Jq (hG ad T ea f N mst bst ρ) bst (fun i => ρ (100 + 3 * i)) (fun i => ρ (101 + 3 * i)) (fun i => ρ (102 + 3 * i)) (fun s => ρ (2 + s)) (fun i hi => liF_at hi) hJq hq0 hb4 (fun i hi => hG_b (by omega)) (fun i hi => hG_a (by omega)) (fun i hi => hG_q (by omega)) (fun i hi => hG_s (hb4 i hi)) y hset.1 hset.2 hyo hq
        exact badJ hI hnd hlv e1 (lk_quench_2 l D T ea mi sa _ (ad 16) f x y hM ⟨rfl, rfl⟩) ⟨rfl, rfl, by decide, by decide⟩ (by decide) hm
      · by_cases h20 : N 3 < 20
        · have hlt : nI (N 3) < 20 := (nI_ltI (b := 20) (by omega) (by decide)).mpr h20
          have hcc : (if σ 24 0 < 20 then (1 : Int32) else 0) = 1 := by rw [l2, if_pos hlt]
          have hmx : ∀ i, ∃ mo, i < N 1 → mo < N 0 ∧ σ 6 i = nI mo ∧ bst i = mst mo := fun i => by
            by_cases hi : i < N 1
            · obtain ⟨mo, a1, -, a3, a4⟩ := (hI.2.2.2.2.2.2.2 i hi).1
              exact ⟨mo, fun _ => ⟨a1, a3, a4⟩⟩
            · exact ⟨0, fun h => absurd h hi⟩
          obtain ⟨mo, hmo⟩ := Classical.axiomOfChoice hmx
          have hn0 := hI.1.2.2.1
          have hm := cm_quench_ok l D T om am σ (N 1) (N 3) mo bst x y hn1 h5 g1 g2 hy l2 h20 (fun i hi => (hmo i hi).2.1) (fun i hi => by have := (hmo i hi).1; omega) (fun i hi => by rw [(hmo i hi).2.2]; exact (hI.2.2.1 _ (hmo i hi).1).2) hb4 (hCQ.mpr ⟨by rw [hcc]; decide, hcq.mp hq⟩)
          have hM : ZIH l yX5_quench wsX5_quench (zrm 4 87) (zW ea mi sa) D T (S := Unit) ((ad 0, .inr (6, hsF ad (nI (N 3)))) :: ([(ad 7, .inr (0, [.int (ρ 7 0), .ref (ad 21), .int (nI (N 1))])), (ad 21, .inl (T 3, cap (N 1), qa (liF ad (fun i => 100 + 3 * i) (N 1))))] ++ iw Jq ad (hG ad T ea f N mst bst ρ))) (fun _ => (ad 0, .inr (6, hsF ad (nI (N 3 + 1)))) :: ([(ad 7, .inr (0, [.int (ρ 7 0), .ref (ad 21), .int (nI (N 1))])), (ad 21, .inl (T 3, cap (N 1), qa (liF ad (fun i => 100 + 3 * i) (N 1))))] ++ iw Jq ad (qG ad T x y (nI (N 3)) bst (fun i => ρ (100 + 3 * i)) (fun i => ρ (101 + 3 * i)) (fun i => ρ (102 + 3 * i)) (fun s => ρ (2 + s)) (hG ad T ea f N mst bst ρ) (N 1)))) [.ref (ad 0), .int x, .int y] (nI (N 3)) 0 0 := by
            rcases hyo with rfl | rfl
            · exact ch_quench_0 l D T ea mi sa (ad 0) ad (ρ 7 0) (ad 21) (cap (N 1)) (N 1) (liF ad (fun i => 100 + 3 * i) (N 1)) (N 3) h20 x c1 c2 Jq (hG ad T ea f N mst bst ρ) bst (fun i => ρ (100 + 3 * i)) (fun i => ρ (101 + 3 * i)) (fun i => ρ (102 + 3 * i)) (fun s => ρ (2 + s)) (fun i hi => liF_at hi) hJq hq0 hb4 (fun i hi => hG_b (by omega)) (fun i hi => hG_a (by omega)) (fun i hi => hG_q (by omega)) (fun i hi => hG_s (hb4 i hi)) hset.1 hset.2 hq
            · exact ch_quench_1 l D T ea mi sa (ad 0) ad (ρ 7 0) (ad 21) (cap (N 1)) (N 1) (liF ad (fun i => 100 + 3 * i) (N 1)) (N 3) h20 x c1 c2 Jq (hG ad T ea f N mst bst ρ) bst (fun i => ρ (100 + 3 * i)) (fun i => ρ (101 + 3 * i)) (fun i => ρ (102 + 3 * i)) (fun s => ρ (2 + s)) (fun i hi => liF_at hi) hJq hq0 hb4 (fun i hi => hG_b (by omega)) (fun i hi => hG_a (by omega)) (fun i hi => hG_q (by omega)) (fun i hi => hG_s (hb4 i hi)) hset.1 hset.2 hq
          have hw := lk_quench l D T ea mi sa _ (ad 16) f x y hM ⟨rfl, rfl⟩ (fun _ j _ => by
            show (ad 0 :: ad 7 :: ad 21 :: (iw Jq ad _).map Prod.fst)[j]? = (ad 0 :: ad 7 :: ad 21 :: (iw Jq ad _).map Prod.fst)[j]?
            rw [fst_iw, fst_iw]) (fun _ => by
            show (iw Jq ad _).length + 3 ≤ (iw Jq ad _).length + 3
            rw [len_iw, len_iw]
            exact Nat.le_refl _)
          obtain ⟨ρ', hρ⟩ : ∃ q, q = upR (qR x y (nI (N 3)) bst ρ (N 1)) 0 (fun _ => nI (N 3 + 1)) := ⟨_, rfl⟩
          have r0 : ρ' 0 = fun _ => nI (N 3 + 1) := by rw [hρ]; exact upR_at _ _ _
          have rq : ∀ k, k ≠ 0 → ρ' k = qR x y (nI (N 3)) bst ρ (N 1) k := fun k hk => by rw [hρ]; exact upR_ne _ _ hk
          have r7 : ρ' 7 = ρ 7 := by rw [rq 7 (by decide)]; exact qR_keep (N 1) (fun i hi => by omega)
          have e2 : iw ([0, 7, 21] ++ Jq) ad (hG ad T ea (vp_updL f (0 : Int32).toNatClampNeg (nI (N 3)).toInt64) N mst bst ρ') = (ad 0, .inr (6, hsF ad (nI (N 3 + 1)))) :: ([(ad 7, .inr (0, [.int (ρ 7 0), .ref (ad 21), .int (nI (N 1))])), (ad 21, .inl (T 3, cap (N 1), qa (liF ad (fun i => 100 + 3 * i) (N 1))))] ++ iw Jq ad (qG ad T x y (nI (N 3)) bst (fun i => ρ (100 + 3 * i)) (fun i => ρ (101 + 3 * i)) (fun i => ρ (102 + 3 * i)) (fun s => ρ (2 + s)) (hG ad T ea f N mst bst ρ) (N 1))) := by
            have e5 : iw Jq ad (hG ad T ea (vp_updL f (0 : Int32).toNatClampNeg (nI (N 3)).toInt64) N mst bst ρ') = iw Jq ad (qG ad T x y (nI (N 3)) bst (fun i => ρ (100 + 3 * i)) (fun i => ρ (101 + 3 * i)) (fun i => ρ (102 + 3 * i)) (fun s => ρ (2 + s)) (hG ad T ea f N mst bst ρ) (N 1)) := by
              unfold iw
              refine List.map_congr_left (fun k hk => ?_)
              have hk9 := (mJq k).mp hk
              have hl := (hmm k).mp hk9.1
              rw [qG_hG hb4 hn1 (N 1) (Nat.le_refl _) k, hG_row (rq k hk9.2.1) (fun e => liv16 (e ▸ hl))]
            show (ad 0, (Sum.inr (6, hsF ad (ρ' 0 0)) : va_E)) :: (ad 7, hG ad T ea (vp_updL f (0 : Int32).toNatClampNeg (nI (N 3)).toInt64) N mst bst ρ' 7) :: (ad 21, hG ad T ea (vp_updL f (0 : Int32).toNatClampNeg (nI (N 3)).toInt64) N mst bst ρ' 21) :: iw Jq ad (hG ad T ea (vp_updL f (0 : Int32).toNatClampNeg (nI (N 3)).toInt64) N mst bst ρ') = _
            rw [e5, hG_7 hpos, r0, r7]
            rfl
          have e1' : iw ([0, 7, 21] ++ Jq) ad (hG ad T ea f N mst bst ρ) = (ad 0, .inr (6, hsF ad (nI (N 3)))) :: ([(ad 7, .inr (0, [.int (ρ 7 0), .ref (ad 21), .int (nI (N 1))])), (ad 21, .inl (T 3, cap (N 1), qa (liF ad (fun i => 100 + 3 * i) (N 1))))] ++ iw Jq ad (hG ad T ea f N mst bst ρ)) := e1
          rw [← e1', ← e2] at hw
          refine step_uN (S2 := Unit) (N' := Nq N) (ρ' := ρ') (f' := vp_updL f (0 : Int32).toNatClampNeg (nI (N 3)).toInt64) hI hnd hlv hw ⟨rfl, rfl, by decide, by decide⟩ ⟨by decide, by decide⟩ (fun j hj => ?_) (zI_M hm) (fun _ => ?_) (fun _ => vpL _ _) hG_Nq (fun _ => by rw [hρ]; exact Inv_q hI h20 hyo hbit)
          · have hnj : j ≠ 0 ∧ ∀ i, i < N 1 → j ≠ 100 + 3 * i ∧ j ≠ 102 + 3 * i := ⟨fun e => hj (by rw [e]; simp), fun i hi => ⟨fun e => hj (List.mem_append_right _ (e ▸ (hq0 i hi).1)), fun e => hj (List.mem_append_right _ (e ▸ (hq0 i hi).2.2.1))⟩⟩
            rw [rq j hnj.1]
            exact qR_keep (N 1) hnj.2
          · have q31 := congrFun (qSt_keep (upS σ 31 (fun _ => 0)) bst x y (a := 31) (by decide) (N 1)) 0
            exact q31
        · have hlt : ¬ nI (N 3) < 20 := fun q => h20 ((nI_ltI (b := 20) (by omega) (by decide)).mp q)
          have hcc : (if σ 24 0 < 20 then (1 : Int32) else 0) = 0 := by rw [l2, if_neg hlt]
          have hm := cm_quench_b2 l D T om am σ (N 1) x y hn1 h5 g1 g2 hy (Classical.byContradiction (fun z => (hCQ.mp z).1 hcc))
          have hM : ZB l yX5_quench wsX5_quench (zrmc 6 87 1 6) (zW ea mi sa) D T ((ad 0, .inr (6, hsF ad (nI (N 3)))) :: ([(ad 7, .inr (0, [.int (ρ 7 0), .ref (ad 21), .int (nI (N 1))])), (ad 21, .inl (T 3, cap (N 1), qa (liF ad (fun i => 100 + 3 * i) (N 1))))] ++ iw Jq ad (hG ad T ea f N mst bst ρ))) [.ref (ad 0), .int x, .int y] "java/lang/IllegalStateException" := ch_quench_w l hfl D T ea mi sa (ad 0) ad (ρ 7 0) (ad 21) (cap (N 1)) (N 1) (liF ad (fun i => 100 + 3 * i) (N 1)) (nI (N 3)) x c1 c2 Jq (hG ad T ea f N mst bst ρ) bst (fun i => ρ (100 + 3 * i)) (fun i => ρ (101 + 3 * i)) (fun i => ρ (102 + 3 * i)) (fun s => ρ (2 + s)) (fun i hi => liF_at hi) hJq hq0 hb4 (fun i hi => hG_b (by omega)) (fun i hi => hG_a (by omega)) (fun i hi => hG_q (by omega)) (fun i hi => hG_s (hb4 i hi)) y hset.1 hset.2 hyo hq hlt
          exact badJ hI hnd hlv e1 (lk_quench_2 l D T ea mi sa _ (ad 16) f x y hM ⟨rfl, rfl⟩) ⟨rfl, rfl, by decide, by decide⟩ (by decide) hm
  · have hm := cm_quench_b1 l D T om am σ (N 1) x y h5 (fun q => hset ((set_ok hn1).mpr ⟨q.1, q.2.1⟩))
    refine badL hI (lk_quench_1 l D T ea mi sa _ (ad 16) f x y (ch_quench_a l hfl D T ea mi sa (ad 0) ad (ρ 0 0) (ρ 7 0) (if N 1 = 0 then ea else ad 21) 0 (N 1) (liF ad (fun i => 100 + 3 * i) (N 1)) x y ?_) ⟨rfl, rfl⟩) ⟨rfl, rfl, by decide, by decide⟩ (by decide) hm
    by_cases h : x = 0
    · exact Or.inl h
    · exact Or.inr (Or.inl (fun q => hset ⟨h, q⟩))
end QUENCH2
