/-! ===== steps: the quench ===== -/
section QUENCH
variable {l : Launch} {D : va_G} {T : Nat → ClassId} {ea mi : Nat} {sa : Nat → Nat} {om : Nat} {am : Nat → Nat}
variable {C : Nat} {ad : Nat → Nat} {J : List Nat} {N mst bst : Nat → Nat} {ρ σ : Nat → Nat → Int32} {f : Nat → Int64}

/-- the class's rows behind the plunge of the first n -/
noncomputable def qR (set md ld : Int32) (bst : Nat → Nat) (ρ : Nat → Nat → Int32) : Nat → (Nat → Nat → Int32)
  | 0 => ρ
  | n + 1 => if ush set (nI n) &&& 1 = 0 then qR set md ld bst ρ n else fun j => if j = 100 + 3 * n then plB ld md (ρ (101 + 3 * n)) (ρ (100 + 3 * n)) else if j = 102 + 3 * n then QQ (ρ (101 + 3 * n)) (ρ (102 + 3 * n)) 0 (ρ (2 + bst n) 1) (ρ (2 + bst n) 2) md else qR set md ld bst ρ n j
theorem qR_keep {set md ld : Int32} {j : Nat} : ∀ n, (∀ i, i < n → j ≠ 100 + 3 * i ∧ j ≠ 102 + 3 * i) → qR set md ld bst ρ n j = ρ j
  | 0, _ => rfl
  | n + 1, h => by
    have ih : qR set md ld bst ρ n j = ρ j := qR_keep n (fun i hi => h i (by omega))
    rw [qR]
    split
    · exact ih
    · show (if j = 100 + 3 * n then _ else if j = 102 + 3 * n then _ else qR set md ld bst ρ n j) = ρ j
      rw [if_neg (h n (Nat.lt_succ_self n)).1, if_neg (h n (Nat.lt_succ_self n)).2]
      exact ih
theorem qG_hG {set md ld : Int32} (hb : ∀ i, i < N 1 → bst i < 4) (hn1 : N 1 ≤ 12) : ∀ n, n ≤ N 1 → ∀ j, qG ad T set md ld bst (fun i => ρ (100 + 3 * i)) (fun i => ρ (101 + 3 * i)) (fun i => ρ (102 + 3 * i)) (fun s => ρ (2 + s)) (hG ad T ea f N mst bst ρ) n j = hG ad T ea f N mst bst (qR set md ld bst ρ n) j
  | 0, _, _ => rfl
  | n + 1, hn, j => by
    have ih : qG ad T set md ld bst (fun i => ρ (100 + 3 * i)) (fun i => ρ (101 + 3 * i)) (fun i => ρ (102 + 3 * i)) (fun s => ρ (2 + s)) (hG ad T ea f N mst bst ρ) n j = hG ad T ea f N mst bst (qR set md ld bst ρ n) j := qG_hG hb hn1 n (by omega) j
    rw [qG, qR]
    by_cases c : ush set (nI n) &&& 1 = 0
    · rw [if_pos c, if_pos c]
      exact ih
    · rw [if_neg c, if_neg c]
      show (if j = 100 + 3 * n then _ else if j = 102 + 3 * n then _ else _) = _
      by_cases e1 : j = 100 + 3 * n
      · rw [if_pos e1, e1, hG_b (by omega)]
        show _ = (Sum.inr (1, biF (ad (101 + 3 * n)) (ad (102 + 3 * n)) (ad (2 + bst n)) (if 100 + 3 * n = 100 + 3 * n then plB ld md (ρ (101 + 3 * n)) (ρ (100 + 3 * n)) else _)) : va_E)
        rw [if_pos rfl]
      · rw [if_neg e1]
        by_cases e2 : j = 102 + 3 * n
        · rw [if_pos e2, e2, hG_q (by omega)]
          show _ = (Sum.inl (T 0, 8, .inl (if 102 + 3 * n = 100 + 3 * n then _ else if 102 + 3 * n = 102 + 3 * n then QQ (ρ (101 + 3 * n)) (ρ (102 + 3 * n)) 0 (ρ (2 + bst n) 1) (ρ (2 + bst n) 2) md else _)) : va_E)
          rw [if_neg (by omega), if_pos rfl]
        · rw [if_neg e2, ih]
          unfold hG
          exact congrArg (fun r => gRow ad T ea f N mst bst r j) ((if_neg e1).trans (if_neg e2)).symm
theorem bnd_C0 {v : Int32} (h : bnd C v) : bnd (C + 1) v := bnd_le (Nat.le_succ C) h
/-- the billets behind the plunge of the first n -/
theorem q_bil {set md : Int32} (hI : Inv C J N mst bst ρ σ) (hmd : md = 0 ∨ md = 1) {st9 : Nat → Nat} (hst : ∀ i, i < N 1 → st9 i = bst i) (hbit : ∀ i, i < N 1 → (ush set (nI i) &&& 1 = 0 ↔ ¬ (set >>> (nI i &&& 31)) &&& 1 = 1)) {N' : Nat → Nat} (n0 : N' 0 = N 0) (n3 : N' 3 = N 3 + 1) {τ : Nat → Nat → Int32} (hτ : ∀ k, k < 29 → τ k = σ k) :
    ∀ n, n ≤ N 1 → ∀ i, i < N 1 → BIv (C + 1) N' mst (bst i) (qR set md (nI (N 3)) bst ρ n (100 + 3 * i)) (qR set md (nI (N 3)) bst ρ n (101 + 3 * i)) (qR set md (nI (N 3)) bst ρ n (102 + 3 * i)) (qSt τ st9 set md n) i
  | 0, _, i, hi => BIv_N (by omega) (fun _ _ => rfl) (by omega) (BIv_sig (BIv_le (Nat.le_succ C) (hI.2.2.2.2.2.2.2 i hi)) (fun k hk => congrFun (hτ k (by omega)) i) (fun k j hk hj => congrFun (hτ k (by omega)) (8 * i + j)))
  | n + 1, hn, i, hi => by
    have ih := q_bil hI hmd hst hbit n0 n3 hτ n (by omega) i hi
    have hbn := hbit n (by omega)
    by_cases c : ush set (nI n) &&& 1 = 0
    · have eR : qR set md (nI (N 3)) bst ρ (n + 1) = qR set md (nI (N 3)) bst ρ n := by rw [qR, if_pos c]
      have eS : qSt τ st9 set md (n + 1) = qSt τ st9 set md n := by rw [qSt, if_neg (hbn.mp c)]
      rw [eR, eS]
      exact ih
    · have c2 : (set >>> (nI n &&& 31)) &&& 1 = 1 := Classical.byContradiction (fun z => c (hbn.mpr z))
      obtain ⟨υ, hυ⟩ : ∃ υ, υ = qSt τ st9 set md n := ⟨_, rfl⟩
      obtain ⟨Φ, hΦ⟩ : ∃ Φ : Nat → Nat → Int32, Φ = fun j => if j = 100 + 3 * n then plB (nI (N 3)) md (ρ (101 + 3 * n)) (ρ (100 + 3 * n)) else if j = 102 + 3 * n then QQ (ρ (101 + 3 * n)) (ρ (102 + 3 * n)) 0 (ρ (2 + bst n) 1) (ρ (2 + bst n) 2) md else qR set md (nI (N 3)) bst ρ n j := ⟨_, rfl⟩
      have eR : qR set md (nI (N 3)) bst ρ (n + 1) = Φ := by rw [qR, if_neg c, hΦ]
      have eS : qSt τ st9 set md (n + 1) = qOne υ n (st9 n) md := by rw [qSt, if_pos c2, hυ]
      have k7 : υ 7 = σ 7 := by rw [hυ, qSt_keep τ st9 set md (by decide) n]; exact hτ 7 (by decide)
      have k1 : υ 1 = σ 1 := by rw [hυ, qSt_keep τ st9 set md (by decide) n]; exact hτ 1 (by decide)
      have k2 : υ 2 = σ 2 := by rw [hυ, qSt_keep τ st9 set md (by decide) n]; exact hτ 2 (by decide)
      have k24 : υ 24 = σ 24 := by rw [hυ, qSt_keep τ st9 set md (by decide) n]; exact hτ 24 (by decide)
      rw [eR, eS]
      rw [← hυ] at ih
      have u9 : qOne υ n (st9 n) md 9 = upd (υ 9) n 20 := rfl
      have u10 : qOne υ n (st9 n) md 10 = upd (υ 10) n 20 := rfl
      have u8 : qOne υ n (st9 n) md 8 = QQ (υ 7) (υ 8) (8 * n) (υ 1 (st9 n)) (υ 2 (st9 n)) md := rfl
      have u14 : qOne υ n (st9 n) md 14 = upd (υ 14) n (QC (υ 7) (8 * n) md (υ 14 n)) := rfl
      have u16 : qOne υ n (st9 n) md 16 = upd (υ 16) n (υ 24 0) := rfl
      have u17 : qOne υ n (st9 n) md 17 = upd (υ 17) n 0 := rfl
      have uo : ∀ k, k ≠ 8 → k ≠ 9 → k ≠ 10 → k ≠ 14 → k ≠ 16 → k ≠ 17 → qOne υ n (st9 n) md k = υ k := fun k a b c d e g => by
        unfold qOne
        rw [upS_ne _ _ g, upS_ne _ _ e, upS_ne _ _ d, upS_ne _ _ c, upS_ne _ _ b, upS_ne _ _ a]
      by_cases e : i = n
      · subst e
        have z1 : Φ (100 + 3 * i) = plB (nI (N 3)) md (ρ (101 + 3 * i)) (ρ (100 + 3 * i)) := by rw [hΦ]; exact if_pos rfl
        have z3 : Φ (102 + 3 * i) = QQ (ρ (101 + 3 * i)) (ρ (102 + 3 * i)) 0 (ρ (2 + bst i) 1) (ρ (2 + bst i) 2) md := by rw [hΦ]; exact (if_neg (by omega)).trans (if_pos rfl)
        have z2 : Φ (101 + 3 * i) = ρ (101 + 3 * i) := by rw [hΦ]; exact (if_neg (by omega)).trans ((if_neg (by omega)).trans (qR_keep i (fun k hk => by omega)))
        rw [z1, z2, z3]
        rw [qR_keep i (fun k hk => by omega), qR_keep i (fun k hk => by omega), qR_keep i (fun k hk => by omega)] at ih
        obtain ⟨⟨mo, hmo, b0, s6, bs⟩, ⟨b3, b456⟩, ⟨b7, w7⟩, ⟨b8, w8⟩, b9, ⟨b10, w10⟩, ⟨b11, w11⟩, ⟨b12, w12⟩, ⟨p9, hp9, b13, s15⟩, hld, hpt, har⟩ := ih
        have hst9 := hst i hi
        have hs4 : bst i < 4 := bst4 hI hi
        obtain ⟨-, hs1, hs2⟩ := hI.2.1 (bst i) hs4
        have h24 : υ 24 0 = nI (N 3) := by rw [k24]; exact hI.2.2.2.1.2.1
        have hsl : ∀ j, j < 8 → ρ (101 + 3 * i) j = υ 7 (8 * i + j) := fun j hj => (har j hj).1
        obtain ⟨qc1, qc2⟩ := QC_UE hsl w12 hmd
        have p12 : plB (nI (N 3)) md (ρ (101 + 3 * i)) (ρ (100 + 3 * i)) 12 = (if md = 0 then ρ (100 + 3 * i) 12 else if UE (ρ (101 + 3 * i)) = 0 then ρ (100 + 3 * i) 12 else 1) := rfl
        unfold BIv
        rw [uo 6 (by decide) (by decide) (by decide) (by decide) (by decide) (by decide), uo 19 (by decide) (by decide) (by decide) (by decide) (by decide) (by decide), uo 20 (by decide) (by decide) (by decide) (by decide) (by decide) (by decide), uo 12 (by decide) (by decide) (by decide) (by decide) (by decide) (by decide), uo 11 (by decide) (by decide) (by decide) (by decide) (by decide) (by decide), uo 13 (by decide) (by decide) (by decide) (by decide) (by decide) (by decide), uo 15 (by decide) (by decide) (by decide) (by decide) (by decide) (by decide), uo 18 (by decide) (by decide) (by decide) (by decide) (by decide) (by decide), uo 7 (by decide) (by decide) (by decide) (by decide) (by decide) (by decide), u9, u10, u14, u16, u17, u8, upd_same, upd_same, upd_same, upd_same, upd_same, p12]
        refine ⟨⟨mo, hmo, b0, s6, bs⟩, ⟨b3, b456⟩, ⟨rfl, 20, by decide, by decide, rfl⟩, ⟨rfl, 20, by decide, by decide, rfl⟩, b9, ⟨b10, w10⟩, ⟨b11, w11⟩, ⟨?_, qc2⟩, ⟨p9, hp9, b13, s15⟩, Or.inr ⟨N 3, by omega, rfl, h24, Or.inl ⟨rfl, rfl⟩, fun j hj => ?_⟩, hpt, har⟩
        · rw [← b12]
          exact qc1
        · have q0 := QQ_at (ρ (101 + 3 * i)) (ρ (102 + 3 * i)) 0 (ρ (2 + bst i) 1) (ρ (2 + bst i) 2) md hj
          rw [Nat.zero_add] at q0
          rw [q0, QQ_at (υ 7) (υ 8) (8 * i) _ _ md hj, hsl j hj, hst9, k1, k2, hs1, hs2]
      · have z : ∀ j, j ≠ 100 + 3 * n → j ≠ 102 + 3 * n → Φ j = qR set md (nI (N 3)) bst ρ n j := fun j a b => by rw [hΦ]; exact (if_neg a).trans (if_neg b)
        rw [z (100 + 3 * i) (by omega) (by omega), z (101 + 3 * i) (by omega) (by omega), z (102 + 3 * i) (by omega) (by omega)]
        refine BIv_sig ih (fun k hk => ?_) (fun k j hk hj => ?_)
        · by_cases a9 : k = 9
          · rw [a9, u9, upd_ne _ _ e]
          by_cases a10 : k = 10
          · rw [a10, u10, upd_ne _ _ e]
          by_cases a14 : k = 14
          · rw [a14, u14, upd_ne _ _ e]
          by_cases a16 : k = 16
          · rw [a16, u16, upd_ne _ _ e]
          by_cases a17 : k = 17
          · rw [a17, u17, upd_ne _ _ e]
          rw [uo k (by omega) a9 a10 a14 a16 a17]
        · by_cases a8 : k = 8
          · rw [a8, u8, QQ_o _ _ _ _ _ _ (by omega)]
          · rw [uo k a8 (by omega) (by omega) (by omega) (by omega) (by omega)]
theorem qSt_far {τ : Nat → Nat → Int32} {st : Nat → Nat} {set md : Int32} : ∀ n i, n ≤ i → qSt τ st set md n 14 i = τ 14 i ∧ qSt τ st set md n 17 i = τ 17 i ∧ ∀ j, j < 8 → qSt τ st set md n 8 (8 * i + j) = τ 8 (8 * i + j)
  | 0, _, _ => ⟨rfl, rfl, fun _ _ => rfl⟩
  | n + 1, i, h => by
    obtain ⟨h1, h2, h3⟩ : qSt τ st set md n 14 i = τ 14 i ∧ qSt τ st set md n 17 i = τ 17 i ∧ ∀ j, j < 8 → qSt τ st set md n 8 (8 * i + j) = τ 8 (8 * i + j) := qSt_far n i (by omega)
    rw [qSt]
    split
    · refine ⟨(upd_ne _ _ (by omega)).trans h1, (upd_ne _ _ (by omega)).trans h2, fun j hj => ?_⟩
      exact (QQ_o _ _ _ _ _ _ (by omega)).trans (h3 j hj)
    · exact ⟨h1, h2, h3⟩
def Nq (N : Nat → Nat) : Nat → Nat := fun q => if q = 3 then N 3 + 1 else N q
theorem Inv_q {set md : Int32} (hI : Inv C J N mst bst ρ σ) (h20 : N 3 < 20) (hmd : md = 0 ∨ md = 1) (hbit : ∀ i, i < N 1 → (ush set (nI i) &&& 1 = 0 ↔ ¬ (set >>> (nI i &&& 31)) &&& 1 = 1)) : Inv (C + 1) J (Nq N) mst bst (upR (qR set md (nI (N 3)) bst ρ (N 1)) 0 (fun _ => nI (N 3 + 1))) (upS (qSt (upS σ 31 (fun _ => 0)) bst set md (N 1)) 24 (fun _ => nI (N 3 + 1))) := by
  have hτ : ∀ k, k < 29 → upS σ 31 (fun _ => 0) k = σ k := fun k hk => upS_ne _ _ (by omega)
  have hqb := q_bil (st9 := bst) (N' := Nq N) hI hmd (fun _ _ => rfl) hbit rfl rfl hτ (N 1) (Nat.le_refl _)
  obtain ⟨σ', hσ⟩ : ∃ q, q = upS (qSt (upS σ 31 (fun _ => 0)) bst set md (N 1)) 24 (fun _ => nI (N 3 + 1)) := ⟨_, rfl⟩
  have s24 : σ' 24 0 = nI (N 3 + 1) := by rw [hσ]; rfl
  have sq : ∀ k, k ≠ 24 → σ' k = qSt (upS σ 31 (fun _ => 0)) bst set md (N 1) k := fun k hk => by rw [hσ]; exact upS_ne _ _ hk
  have hs : ∀ k, k < 29 → k ≠ 24 → k ≠ 8 → k ≠ 9 → k ≠ 10 → k ≠ 14 → k ≠ 16 → k ≠ 17 → σ' k = σ k := fun k h1 h2 a b c d e g => by
    rw [sq k h2, qSt_keep _ _ _ _ ⟨a, b, c, d, e, g⟩ (N 1)]
    exact hτ k h1
  obtain ⟨ρ', hρ⟩ : ∃ q, q = upR (qR set md (nI (N 3)) bst ρ (N 1)) 0 (fun _ => nI (N 3 + 1)) := ⟨_, rfl⟩
  have r0 : ρ' 0 0 = nI (N 3 + 1) := by rw [hρ, upR_at]
  have rq : ∀ k, k ≠ 0 → ρ' k = qR set md (nI (N 3)) bst ρ (N 1) k := fun k hk => by rw [hρ]; exact upR_ne _ _ hk
  obtain ⟨h1, h2, h3, h4, h5, h6, h7, h8⟩ := hI
  have hn1 := h1.2.2.2.1
  have hr : ∀ k, k ≠ 0 → k < 100 ∨ 200 ≤ k → ρ' k = ρ k := fun k hk h => by rw [rq k hk]; exact qR_keep (N 1) (fun i hi => by omega)
  rw [← hσ, ← hρ]
  refine ⟨?_, ?_, ?_, ?_, fun i q1 q2 => ?_, fun d hd => ?_, ?_, fun i hi => ?_⟩
  · unfold CIv at h1 ⊢
    rw [hs 3 (by decide) (by decide) (by decide) (by decide) (by decide) (by decide) (by decide) (by decide), hs 5 (by decide) (by decide) (by decide) (by decide) (by decide) (by decide) (by decide) (by decide), hs 21 (by decide) (by decide) (by decide) (by decide) (by decide) (by decide) (by decide) (by decide)]
    exact h1
  · unfold SIv at h2 ⊢
    rw [hs 0 (by decide) (by decide) (by decide) (by decide) (by decide) (by decide) (by decide) (by decide), hs 1 (by decide) (by decide) (by decide) (by decide) (by decide) (by decide) (by decide) (by decide), hs 2 (by decide) (by decide) (by decide) (by decide) (by decide) (by decide) (by decide) (by decide)]
    exact fun s hs9 => by rw [hr (2 + s) (by omega) (by omega)]; exact h2 s hs9
  · unfold MIv at h3 ⊢
    rw [hs 4 (by decide) (by decide) (by decide) (by decide) (by decide) (by decide) (by decide) (by decide)]
    exact h3
  · refine ⟨h20, s24, r0, ?_⟩
    rw [hs 25 (by decide) (by decide) (by decide) (by decide) (by decide) (by decide) (by decide) (by decide), hr 9 (by omega) (by omega)]
    exact h4.2.2.2
  · have q1' : N 1 ≤ i := q1
    obtain ⟨f1, f2, f3⟩ := qSt_far (τ := upS σ 31 (fun _ => 0)) (st := bst) (set := set) (md := md) (N 1) i q1'
    obtain ⟨z12, z13, z14, z17, z18, z20, z8⟩ := h5 i q1' q2
    rw [hs 12 (by decide) (by decide) (by decide) (by decide) (by decide) (by decide) (by decide) (by decide), hs 13 (by decide) (by decide) (by decide) (by decide) (by decide) (by decide) (by decide) (by decide), hs 18 (by decide) (by decide) (by decide) (by decide) (by decide) (by decide) (by decide) (by decide), hs 20 (by decide) (by decide) (by decide) (by decide) (by decide) (by decide) (by decide) (by decide), sq 14 (by decide), sq 17 (by decide), sq 8 (by decide), f1, f2]
    exact ⟨z12, z13, z14, z17, z18, z20, fun j hj => (f3 j hj).trans (z8 j hj)⟩
  · have hd9 : d < N 2 := hd
    rw [hr (200 + 2 * d) (by omega) (by omega), hr (201 + 2 * d) (by omega) (by omega), hs 22 (by decide) (by decide) (by decide) (by decide) (by decide) (by decide) (by decide) (by decide), hs 23 (by decide) (by decide) (by decide) (by decide) (by decide) (by decide) (by decide) (by decide)]
    exact h6 d hd9
  · unfold JIv at h7 ⊢
    rw [hs 26 (by decide) (by decide) (by decide) (by decide) (by decide) (by decide) (by decide) (by decide), hs 27 (by decide) (by decide) (by decide) (by decide) (by decide) (by decide) (by decide) (by decide), hs 28 (by decide) (by decide) (by decide) (by decide) (by decide) (by decide) (by decide) (by decide), hr 14 (by omega) (by omega), hr 15 (by omega) (by omega)]
    exact h7
  · rw [rq (100 + 3 * i) (by omega), rq (101 + 3 * i) (by omega), rq (102 + 3 * i) (by omega)]
    exact BIv_sig (hqb i hi) (fun k hk => congrFun (sq k (by omega)) i) (fun k j hk hj => congrFun (sq k (by omega)) (8 * i + j))
end QUENCH
