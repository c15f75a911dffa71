/-! ===== steps: a new die ===== -/
theorem BIv_N {C : Nat} {N mst N' mst' : Nat → Nat} {b9 : Nat} {β α κ : Nat → Int32} {σ : Nat → Nat → Int32} {i : Nat} (h0 : N 0 ≤ N' 0) (hm : ∀ m, m < N 0 → mst' m = mst m) (h3 : N 3 ≤ N' 3) (h : BIv C N mst b9 β α κ σ i) : BIv C N' mst' b9 β α κ σ i := by
  obtain ⟨⟨mo, a1, a2, a3, a4⟩, g2, g3, g4, g5, g6, g7, g8, g9, g10, g11, g12⟩ := h
  refine ⟨⟨mo, by omega, a2, a3, by rw [hm mo a1]; exact a4⟩, g2, g3, g4, g5, g6, g7, g8, g9, ?_, g11, g12⟩
  rcases g10 with q | ⟨ld, q1, q2⟩
  · exact Or.inl q
  · exact Or.inr ⟨ld, by omega, q2⟩
theorem fi0_at (f : Nat → Int32) (v : Int32) : ∀ n j, j < n → fi0 f v n j = v := by
  intro n
  induction n with
  | zero => intro j h; omega
  | succ n ih =>
    intro j h
    rw [fi0]
    by_cases e : j = n
    · rw [e, upd_same]
    · rw [upd_ne _ _ e]
      exact ih j (by omega)
section DIE
variable {l : Launch} {D : va_G} {T : Nat → ClassId} {ea mi : Nat} {sa : Nat → Nat} {om : Nat} {am : Nat → Nat}
variable {C : Nat} {ad : Nat → Nat} {J : List Nat} {N mst bst : Nat → Nat} {ρ σ : Nat → Nat → Int32} {f : Nat → Int64}
variable {N' : Nat → Nat}
theorem Inv_die {J' : List Nat} {ρ' σ' : Nat → Nat → Int32} (hI : Inv C J N mst bst ρ σ) (h4 : N 2 < 4) (hJ' : J'.Nodup) (hm' : ∀ j, j ∈ J' ↔ liv N' j) (hN : ∀ q, q ≠ 2 → N' q = N q) (hN2 : N' 2 = N 2 + 1) (hr : ∀ k, k ≠ 8 → k ≠ 200 + 2 * N 2 → k ≠ 201 + 2 * N 2 → ρ' k = ρ k) (hs : ∀ k, k < 29 → k ≠ 21 → k ≠ 22 → k ≠ 23 → σ' k = σ k)
    (h21 : σ' 21 0 = nI (N 2 + 1)) (h22 : ∀ k, k < 8 * N 2 → σ' 22 k = σ 22 k) (h23 : ∀ k, k ≠ N 2 → σ' 23 k = σ 23 k) (hD : (ρ' (200 + 2 * N 2) 0 = σ' 23 (N 2) ∧ bnd 100 (σ' 23 (N 2))) ∧ ∀ j, j < 8 → ρ' (201 + 2 * N 2) j = σ' 22 (8 * N 2 + j) ∧ nbd 1 400 (σ' 22 (8 * N 2 + j))) : Inv (C + 1) J' N' mst bst ρ' σ' := by
  obtain ⟨h1, h2, h3, h4', h5, h6, h7, h8⟩ := hI
  have n0 := hN 0 (by decide)
  have n1 := hN 1 (by decide)
  have n3 := hN 3 (by decide)
  have n4 := hN 4 (by decide)
  obtain ⟨-, -, c3, c4, c5, c6, c7, c8⟩ := h1
  refine ⟨⟨hJ', hm', by omega, by omega, by omega, ?_, ?_, by rw [hN2]; exact h21⟩, ?_, ?_, ?_, ?_, fun d hd => ?_, ?_, fun i hi => ?_⟩
  · rw [hs 3 (by decide) (by decide) (by decide) (by decide), n0]
    exact c6
  · rw [hs 5 (by decide) (by decide) (by decide) (by decide), n1]
    exact c7
  · unfold SIv at h2 ⊢
    rw [hs 0 (by decide) (by decide) (by decide) (by decide), hs 1 (by decide) (by decide) (by decide) (by decide), hs 2 (by decide) (by decide) (by decide) (by decide)]
    exact fun s hs9 => by rw [hr (2 + s) (by omega) (by omega) (by omega)]; exact h2 s hs9
  · unfold MIv at h3 ⊢
    rw [hs 4 (by decide) (by decide) (by decide) (by decide), n0]
    exact h3
  · unfold LIv at h4' ⊢
    rw [hs 24 (by decide) (by decide) (by decide) (by decide), hs 25 (by decide) (by decide) (by decide) (by decide), hr 0 (by omega) (by omega) (by omega), hr 9 (by omega) (by omega) (by omega), n3]
    exact h4'
  · unfold ZIv at h5 ⊢
    rw [hs 12 (by decide) (by decide) (by decide) (by decide), hs 13 (by decide) (by decide) (by decide) (by decide), hs 14 (by decide) (by decide) (by decide) (by decide), hs 17 (by decide) (by decide) (by decide) (by decide), hs 18 (by decide) (by decide) (by decide) (by decide), hs 20 (by decide) (by decide) (by decide) (by decide), hs 8 (by decide) (by decide) (by decide) (by decide), n1]
    exact h5
  · by_cases e : d = N 2
    · rw [e]
      exact hD
    · rw [hr (200 + 2 * d) (by omega) (by omega) (by omega), hr (201 + 2 * d) (by omega) (by omega) (by omega), h23 d e]
      exact ⟨(h6 d (by omega)).1, fun j hj => by rw [h22 (8 * d + j) (by omega)]; exact (h6 d (by omega)).2 j hj⟩
  · unfold JIv at h7 ⊢
    rw [hs 26 (by decide) (by decide) (by decide) (by decide), hs 27 (by decide) (by decide) (by decide) (by decide), hs 28 (by decide) (by decide) (by decide) (by decide), hr 14 (by omega) (by omega) (by omega), hr 15 (by omega) (by omega) (by omega), n4]
    exact h7
  · rw [hr (100 + 3 * i) (by omega) (by omega) (by omega), hr (101 + 3 * i) (by omega) (by omega) (by omega), hr (102 + 3 * i) (by omega) (by omega) (by omega)]
    exact BIv_N (by omega) (fun _ _ => rfl) (by omega) (BIv_sig (BIv_le (Nat.le_succ C) (h8 i (by omega))) (fun k hk => by rw [hs k (by omega) (by omega) (by omega) (by omega)]) (fun k j hk hj => by rw [hs k (by omega) (by omega) (by omega) (by omega)]))
def Nd (N : Nat → Nat) : Nat → Nat := fun q => if q = 2 then N 2 + 1 else N q
def rD (N : Nat → Nat) (ρ : Nat → Nat → Int32) : Nat → Nat → Int32 := fun k => if k = 8 then (fun _ => ρ 8 0 + 1) else if k = 200 + 2 * N 2 then (fun _ => 100) else if k = 201 + 2 * N 2 then fi0 (fun _ => 0) 10 8 else ρ k
theorem rD_8 : rD N ρ 8 = fun _ => ρ 8 0 + 1 := if_pos rfl
theorem rD_d : rD N ρ (200 + 2 * N 2) = fun _ => 100 := by
  unfold rD
  rw [if_neg (by omega), if_pos rfl]
theorem rD_e : rD N ρ (201 + 2 * N 2) = fi0 (fun _ => 0) 10 8 := by
  unfold rD
  rw [if_neg (by omega), if_neg (by omega), if_pos rfl]
theorem rD_o {k : Nat} (h1 : k ≠ 8) (h2 : k ≠ 200 + 2 * N 2) (h3 : k ≠ 201 + 2 * N 2) : rD N ρ k = ρ k := by
  unfold rD
  rw [if_neg h1, if_neg h2, if_neg h3]
def aD (ad : Nat → Nat) (N : Nat → Nat) (x y z : Nat) : Nat → Nat := fun k => if k = 200 + 2 * N 2 then x else if k = 201 + 2 * N 2 then y else if k = 22 then z else ad k
theorem aD_d {x y z : Nat} : aD ad N x y z (200 + 2 * N 2) = x := if_pos rfl
theorem aD_e {x y z : Nat} : aD ad N x y z (201 + 2 * N 2) = y := by
  unfold aD
  rw [if_neg (by omega), if_pos rfl]
theorem aD_22 {x y z : Nat} : aD ad N x y z 22 = z := by
  unfold aD
  rw [if_neg (by omega), if_neg (by omega), if_pos rfl]
theorem aD_o {x y z k : Nat} (h1 : k ≠ 200 + 2 * N 2) (h2 : k ≠ 201 + 2 * N 2) (h3 : k ≠ 22) : aD ad N x y z k = ad k := by
  unfold aD
  rw [if_neg h1, if_neg h2, if_neg h3]
theorem aD_22s {x y k : Nat} (h1 : k ≠ 200 + 2 * N 2) (h2 : k ≠ 201 + 2 * N 2) : aD ad N x y (ad 22) k = ad k := by
  by_cases e : k = 22
  · rw [e, aD_22]
  · exact aD_o h1 h2 e
theorem die_inv {J' : List Nat} (hI : Inv C J N mst bst ρ σ) (h4 : N 2 < 4) (hJ' : J'.Nodup) (hm' : ∀ j, j ∈ J' ↔ liv (Nd N) j) : Inv (C + 1) J' (Nd N) mst bst (rD N ρ) (upS (upS (upS (upS σ 21 (fun _ => nI (N 2 + 1))) 22 (FI (σ 22) (8 * N 2) 10)) 23 (upd (σ 23) (N 2) 100)) 31 (fun _ => 0)) := by
  refine Inv_die hI h4 hJ' hm' (fun q hq => if_neg hq) rfl (fun k a b c => rD_o a b c) (fun k h1 h2 h3 h4 => (upS_ne _ _ (show k ≠ 31 by omega)).trans ((upS_ne _ _ h4).trans ((upS_ne _ _ h3).trans (upS_ne _ _ h2)))) rfl (fun k hk => FI_o 10 (by omega)) (fun k hk => upd_ne (σ 23) 100 hk) ⟨⟨?_, ?_⟩, fun j hj => ?_⟩
  · rw [rD_d]
    exact (upd_same (σ 23) (N 2) 100).symm
  · exact (congrArg (bnd 100) (upd_same (σ 23) (N 2) 100)).mpr ⟨100, Nat.le_refl _, rfl⟩
  · rw [rD_e, fi0_at _ _ 8 j hj]
    exact ⟨(FI_at 10 hj).symm, (congrArg (nbd 1 400) (FI_at (g := σ 22) (b := 8 * N 2) 10 hj)).mpr ⟨10, by decide, by decide, rfl⟩⟩
theorem Nd_liv {j : Nat} : liv (Nd N) j ↔ (j < 16 ∨ (j = 20 ∧ 0 < N 0) ∨ (j = 21 ∧ 0 < N 1) ∨ j = 22 ∨ (100 ≤ j ∧ j < 100 + 3 * N 1) ∨ (200 ≤ j ∧ j < 200 + 2 * (N 2 + 1))) := by
  unfold liv
  rw [show Nd N 0 = N 0 from rfl, show Nd N 1 = N 1 from rfl, show Nd N 2 = N 2 + 1 from rfl]
  omega
theorem st_die (hfl : l.stackTraces = false) (hC : C ≤ 600) (hI : Inv C J N mst bst ρ σ) : StepR l D T ea mi sa yL_die wsL_die 3 [.ref (ad 0), .ref (ad 16)] yX6_die wsX6_die (zrm 1 23) [.ref om] (fun r => r.toInt64) om am C ad J N mst bst ρ σ f := by
  have hJ := hI.1.1
  have hmm := hI.1.2.1
  have hn1 := hI.1.2.2.2.1
  have hn2 := hI.1.2.2.2.2.1
  have h21 := hI.1.2.2.2.2.2.2.2
  have hb4 : ∀ i, i < N 1 → bst i = bst i ∧ bst i < 4 := fun i hi => ⟨rfl, bst4 hI hi⟩
  have hm4 : ∀ i, i < N 0 → mst i = mst i ∧ mst i < 4 := fun i hi => ⟨rfl, (hI.2.2.1 i hi).1⟩
  by_cases h4 : N 2 < 4
  · have hm := cm_die_ok l D T om am σ (N 2) h4 h21
    by_cases h0 : N 2 = 0
    · have hw := lk_die l D T ea mi sa _ (ad 16) f (ch_die_e l D T ea mi sa (ad 0) ad (ρ 0 0) (ρ 8 0)) ⟨rfl, rfl⟩ (fun u j hj => List.getElem?_append_left (l₁ := [ad 0, ad 8]) (l₂ := [u.1, u.2.1, u.2.2]) hj) (fun _ => Nat.le_of_ble_eq_true rfl)
      have e1 : iw [0, 8] ad (hG ad T ea f N mst bst ρ) = [(ad 0, .inr (6, hsF ad (ρ 0 0))), (ad 8, .inr (0, [.int (ρ 8 0), .ref ea, .int 0]))] := by
        show [(ad 0, (Sum.inr (6, hsF ad (ρ 0 0)) : va_E)), (ad 8, Sum.inr (0, [Value.int (ρ 8 0), Value.ref (if N 2 = 0 then ea else ad 22), Value.int (nI (N 2))]))] = _
        rw [if_pos h0, h0, nI_0]
      have g9 : ∀ (u : Nat × Nat × Nat) (f' : Nat → Int64) (j : Nat), liv N j → j ≠ 8 → hG (aD ad N u.1 u.2.1 u.2.2) T ea f' (Nd N) mst bst (rD N ρ) j = hG ad T ea f N mst bst ρ j := fun u f' j hl h8 => by
        have hne : j ≠ 200 + 2 * N 2 ∧ j ≠ 201 + 2 * N 2 ∧ j ≠ 22 := by
          unfold liv at hl
          omega
        exact hG_new hl (fun k hk => aD_o (by omega) (by omega) (by omega)) (fun k k1 k2 => aD_o (by omega) (by omega) (by omega)) (fun k k1 k2 => aD_o (by omega) (by omega) (by omega)) hb4 hn1 hn2 (rD_o h8 hne.1 hne.2.1) (fun _ => ⟨rfl, aD_o (by omega) (by omega) (by omega), hm4⟩) (fun _ => ⟨rfl, aD_o (by omega) (by omega) (by omega)⟩) (fun h => absurd h (by omega))
      have e2 : ∀ (u : Nat × Nat × Nat) (f' : Nat → Int64), [(ad 0, (Sum.inr (6, hsF ad (ρ 0 0)) : va_E)), (ad 8, .inr (0, [.int (ρ 8 0 + 1), .ref u.2.2, .int 1])), (u.1, .inr (2, [.ref u.2.1, .int 100])), (u.2.1, .inl (T 0, 8, .inl (fi0 (fun _ => 0) 10 8))), (u.2.2, .inl (T 3, 10, qa (va_up (fun _ => none) 0 (some u.1))))] = iw [0, 8] ad (hG (aD ad N u.1 u.2.1 u.2.2) T ea f' (Nd N) mst bst (rD N ρ)) ++ iw [200 + 2 * N 2, 201 + 2 * N 2, 22] (aD ad N u.1 u.2.1 u.2.2) (hG (aD ad N u.1 u.2.1 u.2.2) T ea f' (Nd N) mst bst (rD N ρ)) := fun u f' => by
        have r8 : hG (aD ad N u.1 u.2.1 u.2.2) T ea f' (Nd N) mst bst (rD N ρ) 8 = .inr (0, [.int (ρ 8 0 + 1), .ref u.2.2, .int 1]) := by
          rw [hG_8 (show 0 < Nd N 2 from Nat.succ_pos _), aD_22, rD_8, show Nd N 2 = N 2 + 1 from rfl, h0]
          rfl
        have r22 : hG (aD ad N u.1 u.2.1 u.2.2) T ea f' (Nd N) mst bst (rD N ρ) 22 = .inl (T 3, 10, qa (va_up (fun _ => none) 0 (some u.1))) := by
          rw [liF_0 (ad' := aD ad N u.1 u.2.1 u.2.2) (ix' := fun i => 200 + 2 * i) (a := u.1) (by rw [← h0]; exact aD_d)]
          show (Sum.inl (T 3, cap (Nd N 2), qa (liF (aD ad N u.1 u.2.1 u.2.2) (fun i => 200 + 2 * i) (Nd N 2))) : va_E) = _
          rw [show Nd N 2 = N 2 + 1 from rfl, h0]
          rfl
        rw [iw_cons, iw_cons, iw_nil, iw_cons, iw_cons, iw_cons, iw_nil, g9 u f' 0 (Or.inl (by decide)) (by decide), r8, r22, hG_d h4, hG_e h4, aD_d, aD_e, aD_22, rD_d, rD_e]
        rfl
      rw [← e1] at hw
      have e3 := fun f' => funext (fun u => e2 u f')
      refine step_b (rm := lkR (zrmc 5 151 3 20) 2 3 20) (mc := 3) (ms := 20) (S1 := Nat × Nat × Nat) (S2 := Unit) (js := [0, 8]) (G' := fun u => hG (aD ad N u.1 u.2.1 u.2.2) T ea (vp_updL f (0 : Int32).toNatClampNeg (0 : Int32).toInt64) (Nd N) mst bst (rD N ρ)) (tl := fun u => iw [200 + 2 * N 2, 201 + 2 * N 2, 22] (aD ad N u.1 u.2.1 u.2.2) (hG (aD ad N u.1 u.2.1 u.2.2) T ea (vp_updL f (0 : Int32).toNatClampNeg (0 : Int32).toInt64) (Nd N) mst bst (rD N ρ))) hI (by decide) (fun j hj => by simp only [List.mem_cons, List.not_mem_nil, or_false] at hj; unfold liv; omega) ?_ ⟨rfl, rfl, by decide, by decide⟩ ⟨by decide, by decide⟩ (fun _ => rfl) (fun u j hj hn => g9 u _ j ((hmm j).mp hj) (fun e => hn (by rw [e]; decide))) (zI_M hm) (fun _ => rfl) (fun _ => (vpL _ _).trans (by rw [h0, nI_0])) (fun u _ => ⟨aD ad N u.1 u.2.1 u.2.2, J ++ [200 + 2 * N 2, 201 + 2 * N 2, 22], Nd N, mst, bst, rD N ρ, aD_o (by omega) (by omega) (by omega), aD_o (by omega) (by omega) (by omega), perm_new (fun j hj => ?_) (List.Perm.refl _), die_inv hI h4 ?_ (fun j => ?_)⟩)
      · have e4 : (fun u : Nat × Nat × Nat => ouW (ad 16) T (vp_updL f (0 : Int32).toNatClampNeg (0 : Int32).toInt64) :: (iw [0, 8] ad (hG (aD ad N u.1 u.2.1 u.2.2) T ea (vp_updL f (0 : Int32).toNatClampNeg (0 : Int32).toInt64) (Nd N) mst bst (rD N ρ)) ++ iw [200 + 2 * N 2, 201 + 2 * N 2, 22] (aD ad N u.1 u.2.1 u.2.2) (hG (aD ad N u.1 u.2.1 u.2.2) T ea (vp_updL f (0 : Int32).toNatClampNeg (0 : Int32).toInt64) (Nd N) mst bst (rD N ρ)))) = fun u => (ad 16, .inl (T 2, 1, .inr (.inl (vp_updL f (0 : Int32).toNatClampNeg (0 : Int32).toInt64)))) :: [(ad 0, (Sum.inr (6, hsF ad (ρ 0 0)) : va_E)), (ad 8, .inr (0, [.int (ρ 8 0 + 1), .ref u.2.2, .int 1])), (u.1, .inr (2, [.ref u.2.1, .int 100])), (u.2.1, .inl (T 0, 8, .inl (fi0 (fun _ => 0) 10 8))), (u.2.2, .inl (T 3, 10, qa (va_up (fun _ => none) 0 (some u.1))))] := funext (fun u => by rw [e2 u (vp_updL f (0 : Int32).toNatClampNeg (0 : Int32).toInt64)])
        rw [e4]
        exact hw
      · have hl := (hmm j).mp hj
        have hne : j ≠ 200 + 2 * N 2 ∧ j ≠ 201 + 2 * N 2 ∧ j ≠ 22 := by
          unfold liv at hl
          omega
        exact aD_o hne.1 hne.2.1 hne.2.2
      · refine List.nodup_append.mpr ⟨hJ, ?_, fun a ha b hb e => ?_⟩
        · simp only [List.nodup_cons, List.mem_cons, List.not_mem_nil, or_false, List.nodup_nil, and_true, not_false_eq_true]
          omega
        · have hl := (hmm a).mp ha
          simp only [List.mem_cons, List.not_mem_nil, or_false] at hb
          unfold liv at hl
          omega
      · rw [List.mem_append, Nd_liv, hmm j]
        simp only [List.mem_cons, List.not_mem_nil, or_false]
        unfold liv
        omega
    · have hp : 0 < N 2 := Nat.pos_of_ne_zero h0
      have hc9 := (cap_le (g := N 2) (by omega)).2
      have hcp : N 2 < cap (N 2) := by
        have e : cap (N 2) = 10 := if_pos (by omega)
        rw [e]
        omega
      have hw := lk_die l D T ea mi sa _ (ad 16) f (ch_die_r l D T ea mi sa (ad 0) ad (ρ 0 0) (ρ 8 0) (ad 22) (cap (N 2)) (N 2) (liF ad (fun i => 200 + 2 * i) (N 2)) h4 hcp hc9) ⟨rfl, rfl⟩ (fun u j hj => List.getElem?_append_left (l₁ := [ad 0, ad 8, ad 22]) (l₂ := [u.1, u.2]) hj) (fun _ => Nat.le_of_ble_eq_true rfl)
      have e1 : iw [0, 8, 22] ad (hG ad T ea f N mst bst ρ) = [(ad 0, .inr (6, hsF ad (ρ 0 0))), (ad 8, .inr (0, [.int (ρ 8 0), .ref (ad 22), .int (nI (N 2))])), (ad 22, .inl (T 3, cap (N 2), qa (liF ad (fun i => 200 + 2 * i) (N 2))))] := by
        rw [iw_cons, iw_cons, iw_cons, iw_nil, hG_8 hp]
        rfl
      have g9 : ∀ (u : Nat × Nat) (f' : Nat → Int64) (j : Nat), liv N j → j ≠ 8 → j ≠ 22 → hG (aD ad N u.1 u.2 (ad 22)) T ea f' (Nd N) mst bst (rD N ρ) j = hG ad T ea f N mst bst ρ j := fun u f' j hl h8 h22 => by
        have hne : j ≠ 200 + 2 * N 2 ∧ j ≠ 201 + 2 * N 2 := by
          unfold liv at hl
          omega
        exact hG_new hl (fun k hk => aD_22s (by omega) (by omega)) (fun k k1 k2 => aD_22s (by omega) (by omega)) (fun k k1 k2 => aD_22s (by omega) (by omega)) hb4 hn1 hn2 (rD_o h8 hne.1 hne.2) (fun _ => ⟨rfl, aD_22s (by omega) (by omega), hm4⟩) (fun _ => ⟨rfl, aD_22s (by omega) (by omega)⟩) (fun h => absurd h (by omega))
      have e2 : ∀ (u : Nat × Nat) (f' : Nat → Int64), [(ad 0, (Sum.inr (6, hsF ad (ρ 0 0)) : va_E)), (ad 8, .inr (0, [.int (ρ 8 0 + 1), .ref (ad 22), .int (nI (N 2 + 1))])), (ad 22, .inl (T 3, cap (N 2), qa (va_up (liF ad (fun i => 200 + 2 * i) (N 2)) (N 2) (some u.1)))), (u.1, .inr (2, [.ref u.2, .int 100])), (u.2, .inl (T 0, 8, .inl (fi0 (fun _ => 0) 10 8)))] = iw [0, 8, 22] ad (hG (aD ad N u.1 u.2 (ad 22)) T ea f' (Nd N) mst bst (rD N ρ)) ++ iw [200 + 2 * N 2, 201 + 2 * N 2] (aD ad N u.1 u.2 (ad 22)) (hG (aD ad N u.1 u.2 (ad 22)) T ea f' (Nd N) mst bst (rD N ρ)) := fun u f' => by
        have r8 : hG (aD ad N u.1 u.2 (ad 22)) T ea f' (Nd N) mst bst (rD N ρ) 8 = .inr (0, [.int (ρ 8 0 + 1), .ref (ad 22), .int (nI (N 2 + 1))]) := by
          rw [hG_8 (show 0 < Nd N 2 from Nat.succ_pos _), aD_22, rD_8, show Nd N 2 = N 2 + 1 from rfl]
        have r22 : hG (aD ad N u.1 u.2 (ad 22)) T ea f' (Nd N) mst bst (rD N ρ) 22 = .inl (T 3, cap (N 2), qa (va_up (liF ad (fun i => 200 + 2 * i) (N 2)) (N 2) (some u.1))) := by
          rw [liF_up (ad' := aD ad N u.1 u.2 (ad 22)) (ix' := fun i => 200 + 2 * i) (a := u.1) (fun i hi => aD_22s (by omega) (by omega)) aD_d, ← cap_succ hcp]
          rfl
        rw [iw_cons, iw_cons, iw_cons, iw_nil, iw_cons, iw_cons, iw_nil, g9 u f' 0 (Or.inl (by decide)) (by decide) (by decide), r8, r22, hG_d h4, hG_e h4, aD_d, aD_e, rD_d, rD_e]
        rfl
      rw [← e1] at hw
      refine step_b (rm := lkR (zrmc 2 44 2 10) 2 2 10) (mc := 2) (ms := 10) (S1 := Nat × Nat) (S2 := Unit) (js := [0, 8, 22]) (G' := fun u => hG (aD ad N u.1 u.2 (ad 22)) T ea (vp_updL f (0 : Int32).toNatClampNeg (nI (N 2)).toInt64) (Nd N) mst bst (rD N ρ)) (tl := fun u => iw [200 + 2 * N 2, 201 + 2 * N 2] (aD ad N u.1 u.2 (ad 22)) (hG (aD ad N u.1 u.2 (ad 22)) T ea (vp_updL f (0 : Int32).toNatClampNeg (nI (N 2)).toInt64) (Nd N) mst bst (rD N ρ))) hI (by decide) (fun j hj => by simp only [List.mem_cons, List.not_mem_nil, or_false] at hj; unfold liv; omega) ?_ ⟨rfl, rfl, by decide, by decide⟩ ⟨by decide, by decide⟩ (fun _ => rfl) (fun u j hj hn => g9 u _ j ((hmm j).mp hj) (fun e => hn (by rw [e]; decide)) (fun e => hn (by rw [e]; decide))) (zI_M hm) (fun _ => rfl) (fun _ => vpL _ _) (fun u _ => ⟨aD ad N u.1 u.2 (ad 22), J ++ [200 + 2 * N 2, 201 + 2 * N 2], Nd N, mst, bst, rD N ρ, aD_22s (by omega) (by omega), aD_22s (by omega) (by omega), perm_new (fun j hj => ?_) (List.Perm.refl _), die_inv hI h4 ?_ (fun j => ?_)⟩)
      · have e4 : (fun u : Nat × Nat => ouW (ad 16) T (vp_updL f (0 : Int32).toNatClampNeg (nI (N 2)).toInt64) :: (iw [0, 8, 22] ad (hG (aD ad N u.1 u.2 (ad 22)) T ea (vp_updL f (0 : Int32).toNatClampNeg (nI (N 2)).toInt64) (Nd N) mst bst (rD N ρ)) ++ iw [200 + 2 * N 2, 201 + 2 * N 2] (aD ad N u.1 u.2 (ad 22)) (hG (aD ad N u.1 u.2 (ad 22)) T ea (vp_updL f (0 : Int32).toNatClampNeg (nI (N 2)).toInt64) (Nd N) mst bst (rD N ρ)))) = fun u => (ad 16, .inl (T 2, 1, .inr (.inl (vp_updL f (0 : Int32).toNatClampNeg (nI (N 2)).toInt64)))) :: [(ad 0, (Sum.inr (6, hsF ad (ρ 0 0)) : va_E)), (ad 8, .inr (0, [.int (ρ 8 0 + 1), .ref (ad 22), .int (nI (N 2 + 1))])), (ad 22, .inl (T 3, cap (N 2), qa (va_up (liF ad (fun i => 200 + 2 * i) (N 2)) (N 2) (some u.1)))), (u.1, .inr (2, [.ref u.2, .int 100])), (u.2, .inl (T 0, 8, .inl (fi0 (fun _ => 0) 10 8)))] := funext (fun u => by rw [e2 u (vp_updL f (0 : Int32).toNatClampNeg (nI (N 2)).toInt64)])
        rw [e4]
        exact hw
      · have hl := (hmm j).mp hj
        have hne : j ≠ 200 + 2 * N 2 ∧ j ≠ 201 + 2 * N 2 := by
          unfold liv at hl
          omega
        exact aD_22s hne.1 hne.2
      · refine List.nodup_append.mpr ⟨hJ, ?_, fun a ha b hb e => ?_⟩
        · simp only [List.nodup_cons, List.mem_cons, List.not_mem_nil, or_false, List.nodup_nil, and_true, not_false_eq_true]
          omega
        · have hl := (hmm a).mp ha
          simp only [List.mem_cons, List.not_mem_nil, or_false] at hb
          unfold liv at hl
          omega
      · rw [List.mem_append, Nd_liv, hmm j]
        simp only [List.mem_cons, List.not_mem_nil, or_false]
        unfold liv
        omega
  · have hg : gth (if σ 21 0 < 4 then 1 else 0) 1 1 = 1 := by
      have hlt : ¬ nI (N 2) < 4 := fun q => h4 ((nI_ltI (b := 4) (by omega) (by decide)).mp q)
      rw [h21, if_neg hlt]
      rfl
    have hm := cm_die_bad l D T om am σ (by rw [hg]; decide)
    rw [hg] at hm
    exact badE hI (lk_die_1 l D T ea mi sa _ (ad 16) f (ch_die_w l hfl D T ea mi sa (ad 0) ad (ρ 0 0) (ρ 8 0) (if N 2 = 0 then ea else ad 22) (N 2) (by omega) (by omega)) ⟨rfl, rfl⟩) ⟨rfl, rfl, by decide, by decide⟩ (by decide) hm
end DIE
