/-! ===== what binds both sides ===== -/
def nbd (a B : Nat) (v : Int32) : Prop := ∃ n : Nat, a ≤ n ∧ n ≤ B ∧ v = nI n
def tmpR (t s : Int32) : Prop := (s = 0 ∧ t = 100) ∨ ∃ n : Nat, 100 ≤ n ∧ n ≤ 700 ∧ s = nI n ∧ t = nI n
/-- a billet: C calls so far, N the counts (N 3: loads), mst the steels of melts, b9 its steel, its rows; its number i in the reference's σ -/
def BIv (C : Nat) (N mst : Nat → Nat) (b9 : Nat) (β α κ : Nat → Int32) (σ : Nat → Nat → Int32) (i : Nat) : Prop :=
  (∃ mo, mo < N 0 ∧ β 0 = nI mo ∧ σ 6 i = nI mo ∧ b9 = mst mo) ∧ (β 3 = σ 19 i ∧ β 4 + β 5 + β 6 = σ 20 i) ∧ (β 7 = σ 9 i ∧ nbd 20 1300 (β 7)) ∧ (β 8 = σ 10 i ∧ nbd 20 1300 (β 8)) ∧ β 9 = σ 12 i ∧
  (β 10 = σ 11 i ∧ bnd 200 (β 10)) ∧ (β 11 = σ 13 i ∧ bnd C (β 11)) ∧ (β 12 = σ 14 i ∧ (β 12 = 0 ∨ β 12 = 1)) ∧ (∃ p, p < 256 ∧ β 13 = nI p ∧ σ 15 i = nI p) ∧
  ((β 14 = -1 ∧ σ 16 i = -1 ∧ σ 17 i = 0 ∧ ∀ j, j < 8 → σ 8 (8 * i + j) = 0) ∨ ∃ ld, ld < N 3 ∧ β 14 = nI ld ∧ σ 16 i = nI ld ∧ tmpR (β 16) (σ 17 i) ∧ ∀ j, j < 8 → κ j = σ 8 (8 * i + j)) ∧
  ((β 17 = 1 ∧ σ 18 i = 0) ∨ (β 17 = 0 ∧ σ 18 i = 1)) ∧ ∀ j, j < 8 → α j = σ 7 (8 * i + j) ∧ nbd 1 (400 + 20 * C) (α j)
def CIv (J : List Nat) (N : Nat → Nat) (σ : Nat → Nat → Int32) : Prop := J.Nodup ∧ (∀ j, j ∈ J ↔ liv N j) ∧ N 0 ≤ 20 ∧ N 1 ≤ 12 ∧ N 2 ≤ 4 ∧ σ 3 0 = nI (N 0) ∧ σ 5 0 = nI (N 1) ∧ σ 21 0 = nI (N 2)
def SIv (ρ σ : Nat → Nat → Int32) : Prop := ∀ s, s < 4 → ρ (2 + s) 0 = σ 0 s ∧ ρ (2 + s) 1 = σ 1 s ∧ ρ (2 + s) 2 = σ 2 s
def MIv (N mst : Nat → Nat) (σ : Nat → Nat → Int32) : Prop := ∀ m, m < N 0 → mst m < 4 ∧ σ 4 m = nI (mst m)
def LIv (N : Nat → Nat) (ρ σ : Nat → Nat → Int32) : Prop := N 3 ≤ 20 ∧ σ 24 0 = nI (N 3) ∧ ρ 0 0 = nI (N 3) ∧ ∀ ld, ld < 20 → ∀ m, m < 20 → (ρ 9 ld &&& ((1 : Int32) <<< (nI m &&& 31)) = 0 ↔ σ 25 (20 * ld + m) = 0)
def ZIv (N : Nat → Nat) (σ : Nat → Nat → Int32) : Prop := ∀ i, N 1 ≤ i → i < 12 → σ 12 i = 0 ∧ σ 13 i = 0 ∧ σ 14 i = 0 ∧ σ 17 i = 0 ∧ σ 18 i = 0 ∧ σ 20 i = 0 ∧ ∀ j, j < 8 → σ 8 (8 * i + j) = 0
def DIv (N : Nat → Nat) (ρ σ : Nat → Nat → Int32) : Prop := ∀ d, d < N 2 → (ρ (200 + 2 * d) 0 = σ 23 d ∧ bnd 100 (σ 23 d)) ∧ ∀ j, j < 8 → ρ (201 + 2 * d) j = σ 22 (8 * d + j) ∧ nbd 1 400 (σ 22 (8 * d + j))
def JIv (N : Nat → Nat) (ρ σ : Nat → Nat → Int32) : Prop := N 4 ≤ 12 ∧ σ 26 0 = nI (N 4) ∧ ρ 14 0 = nI (N 4) ∧ (ρ 14 1 = σ 28 0 ∧ nbd 200 1300 (σ 28 0)) ∧ (∀ k, k < N 4 → ρ 15 k = σ 27 k ∧ nbd 200 1300 (σ 27 k)) ∧ ∀ a b, a ≤ b → b < N 4 → σ 27 a ≤ σ 27 b
def Inv (C : Nat) (J : List Nat) (N mst bst : Nat → Nat) (ρ σ : Nat → Nat → Int32) : Prop :=
  CIv J N σ ∧ SIv ρ σ ∧ MIv N mst σ ∧ LIv N ρ σ ∧ ZIv N σ ∧ DIv N ρ σ ∧ JIv N ρ σ ∧ ∀ i, i < N 1 → BIv C N mst (bst i) (ρ (100 + 3 * i)) (ρ (101 + 3 * i)) (ρ (102 + 3 * i)) σ i
theorem bnd_le {a b : Nat} (h : a ≤ b) {v : Int32} (q : bnd a v) : bnd b v := by
  obtain ⟨n, h1, h2⟩ := q
  exact ⟨n, Nat.le_trans h1 h, h2⟩
theorem nbd_le {x a b : Nat} (h : a ≤ b) {v : Int32} (q : nbd x a v) : nbd x b v := by
  obtain ⟨n, h1, h2, h3⟩ := q
  exact ⟨n, h1, Nat.le_trans h2 h, h3⟩
theorem BIv_le {C C' : Nat} (hC : C ≤ C') {N mst : Nat → Nat} {b9 : Nat} {β α κ : Nat → Int32} {σ : Nat → Nat → Int32} {i : Nat} (h : BIv C N mst b9 β α κ σ i) : BIv C' N mst b9 β α κ σ i := by
  obtain ⟨h1, h2, h3, h4, h5, h6, h7, h8, h9, h10, h11, h12⟩ := h
  exact ⟨h1, h2, h3, h4, h5, h6, ⟨h7.1, bnd_le hC h7.2⟩, h8, h9, h10, h11, fun j hj => ⟨(h12 j hj).1, nbd_le (by omega) (h12 j hj).2⟩⟩
theorem BIv_sig {C : Nat} {N mst : Nat → Nat} {b9 : Nat} {β α κ : Nat → Int32} {σ σ' : Nat → Nat → Int32} {i : Nat} (h : BIv C N mst b9 β α κ σ i) (h1 : ∀ k, k = 6 ∨ (9 ≤ k ∧ k ≤ 20) → σ' k i = σ k i) (h2 : ∀ k j, k = 7 ∨ k = 8 → j < 8 → σ' k (8 * i + j) = σ k (8 * i + j)) : BIv C N mst b9 β α κ σ' i := by
  unfold BIv at h ⊢
  rw [h1 6 (by omega), h1 9 (by omega), h1 10 (by omega), h1 11 (by omega), h1 12 (by omega), h1 13 (by omega), h1 14 (by omega), h1 15 (by omega), h1 16 (by omega), h1 17 (by omega), h1 18 (by omega), h1 19 (by omega), h1 20 (by omega)]
  obtain ⟨g1, g2, g3, g4, g5, g6, g7, g8, g9, g10, g11, g12⟩ := h
  refine ⟨g1, g2, g3, g4, g5, g6, g7, g8, g9, ?_, g11, fun j hj => ?_⟩
  · rcases g10 with ⟨a1, a2, a3, a4⟩ | ⟨ld, a1, a2, a3, a4, a5⟩
    · exact Or.inl ⟨a1, a2, a3, fun j hj => by rw [h2 8 j (by omega) hj]; exact a4 j hj⟩
    · exact Or.inr ⟨ld, a1, a2, a3, a4, fun j hj => by rw [h2 8 j (by omega) hj]; exact a5 j hj⟩
  · rw [h2 7 j (by omega) hj]
    exact g12 j hj
/-- rows from 29 on don't count -/
theorem Inv_read {C C' : Nat} (hC : C ≤ C') {J : List Nat} {N mst bst : Nat → Nat} {ρ σ σ' : Nat → Nat → Int32} (h : Inv C J N mst bst ρ σ) (hs : ∀ k, k < 29 → σ' k = σ k) : Inv C' J N mst bst ρ σ' := by
  obtain ⟨h1, h2, h3, h4, h5, h6, h7, h8⟩ := h
  refine ⟨?_, ?_, ?_, ?_, ?_, ?_, ?_, fun i hi => ?_⟩
  · unfold CIv at h1 ⊢
    rw [hs 3 (by decide), hs 5 (by decide), hs 21 (by decide)]
    exact h1
  · unfold SIv at h2 ⊢
    rw [hs 0 (by decide), hs 1 (by decide), hs 2 (by decide)]
    exact h2
  · unfold MIv at h3 ⊢
    rw [hs 4 (by decide)]
    exact h3
  · unfold LIv at h4 ⊢
    rw [hs 24 (by decide), hs 25 (by decide)]
    exact h4
  · unfold ZIv at h5 ⊢
    rw [hs 12 (by decide), hs 13 (by decide), hs 14 (by decide), hs 17 (by decide), hs 18 (by decide), hs 20 (by decide), hs 8 (by decide)]
    exact h5
  · unfold DIv at h6 ⊢
    rw [hs 22 (by decide), hs 23 (by decide)]
    exact h6
  · unfold JIv at h7 ⊢
    rw [hs 26 (by decide), hs 27 (by decide), hs 28 (by decide)]
    exact h7
  · exact BIv_sig (BIv_le hC (h8 i hi)) (fun k hk => by rw [hs k (by omega)]) (fun k j hk hj => by rw [hs k (by omega)])
/-- one billet is changed -/
theorem Inv_bil {C C' : Nat} (hC : C ≤ C') {J : List Nat} {N mst bst : Nat → Nat} {ρ ρ' σ σ' : Nat → Nat → Int32} {i : Nat} (hi : i < N 1) (h : Inv C J N mst bst ρ σ) (hr : ∀ j, j ≠ 100 + 3 * i → j ≠ 101 + 3 * i → j ≠ 102 + 3 * i → ρ' j = ρ j)
    (hs : ∀ k, k < 29 → k < 6 ∨ 20 < k → σ' k = σ k) (hs1 : ∀ k i', k = 6 ∨ (9 ≤ k ∧ k ≤ 20) → i' ≠ i → σ' k i' = σ k i') (hs2 : ∀ k i' j, k = 7 ∨ k = 8 → i' ≠ i → j < 8 → σ' k (8 * i' + j) = σ k (8 * i' + j))
    (hB : BIv C' N mst (bst i) (ρ' (100 + 3 * i)) (ρ' (101 + 3 * i)) (ρ' (102 + 3 * i)) σ' i) : Inv C' J N mst bst ρ' σ' := by
  obtain ⟨h1, h2, h3, h4, h5, h6, h7, h8⟩ := h
  have hN := h1.2.2.2.1
  refine ⟨?_, ?_, ?_, ?_, ?_, ?_, ?_, fun i' hi' => ?_⟩
  · unfold CIv at h1 ⊢
    rw [hs 3 (by decide) (by decide), hs 5 (by decide) (by decide), hs 21 (by decide) (by decide)]
    exact h1
  · unfold SIv at h2 ⊢
    rw [hs 0 (by decide) (by decide), hs 1 (by decide) (by decide), hs 2 (by decide) (by decide)]
    exact fun s hs9 => by rw [hr (2 + s) (by omega) (by omega) (by omega)]; exact h2 s hs9
  · unfold MIv at h3 ⊢
    rw [hs 4 (by decide) (by decide)]
    exact h3
  · unfold LIv at h4 ⊢
    rw [hs 24 (by decide) (by decide), hs 25 (by decide) (by decide), hr 0 (by omega) (by omega) (by omega), hr 9 (by omega) (by omega) (by omega)]
    exact h4
  · intro i' q1 q2
    have hne : i' ≠ i := by omega
    obtain ⟨a1, a2, a3, a4, a5, a6, a7⟩ := h5 i' q1 q2
    exact ⟨(hs1 12 i' (by omega) hne).trans a1, (hs1 13 i' (by omega) hne).trans a2, (hs1 14 i' (by omega) hne).trans a3, (hs1 17 i' (by omega) hne).trans a4, (hs1 18 i' (by omega) hne).trans a5, (hs1 20 i' (by omega) hne).trans a6, fun j hj => (hs2 8 i' j (by omega) hne hj).trans (a7 j hj)⟩
  · unfold DIv at h6 ⊢
    rw [hs 22 (by decide) (by decide), hs 23 (by decide) (by decide)]
    exact fun d hd => by rw [hr (200 + 2 * d) (by omega) (by omega) (by omega), hr (201 + 2 * d) (by omega) (by omega) (by omega)]; exact h6 d hd
  · unfold JIv at h7 ⊢
    rw [hs 26 (by decide) (by decide), hs 27 (by decide) (by decide), hs 28 (by decide) (by decide), hr 14 (by omega) (by omega) (by omega), hr 15 (by omega) (by omega) (by omega)]
    exact h7
  · by_cases e : i' = i
    · rw [e]
      exact hB
    · rw [hr (100 + 3 * i') (by omega) (by omega) (by omega), hr (101 + 3 * i') (by omega) (by omega) (by omega), hr (102 + 3 * i') (by omega) (by omega) (by omega)]
      exact BIv_sig (BIv_le hC (h8 i' hi')) (fun k hk => hs1 k i' hk e) (fun k j hk hj => hs2 k i' j hk e hj)
/-! hardness -/
theorem hrc_hrd {q t s : Int32} (h : tmpR t s) : hrc q t = hrd q s := by
  have key : ∀ w : Int32, (if 0 < w then w else 0) = if w < 0 then 0 else w := by
    intro w
    by_cases h1 : w < 0
    · rw [if_pos h1, if_neg (fun h2 => absurd h1 (Int32.not_lt.mpr (Int32.le_of_lt h2)))]
    · rw [if_neg h1]
      by_cases h2 : 0 < w
      · rw [if_pos h2]
      · rw [if_neg h2]
        exact i32_tri h2 h1 |> fun e => e
  unfold hrc hrd
  rcases h with ⟨h1, h2⟩ | ⟨n, h1, h2, h3, h4⟩
  · subst h1; subst h2
    rw [key]
    rfl
  · subst h3; subst h4
    rw [key]
    by_cases hn : n = 100
    · subst hn
      rfl
    · rw [if_pos (show (100 : Int32) < nI n from (nI_ltI (a := 100) (by decide) (by omega)).mpr (by omega))]
theorem LH_SF {v f : Nat → Int32} {t : Int32} (h : ∀ j, j < 8 → v j = hrd (f j) t) : LH v = SF f t := by
  rw [LH_eq, SF_eq]
  have key : ∀ n, n < 8 → lhc v n = sft f t n := by
    intro n
    induction n with
    | zero => intro _; exact h 0 (by decide)
    | succ n ih =>
      intro hn
      rw [lhc, sft, ih (by omega), h (n + 1) hn]
      exact min_imin _ _
  exact key 7 (by decide)
