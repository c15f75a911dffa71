/-! ===== the helpers over the whole world: what asks of a billet ===== -/
section HC1
variable {l : Launch} {D : va_G} {T : Nat → ClassId} {ea mi : Nat} {sa : Nat → Nat}
variable {C : Nat} {ad : Nat → Nat} {J : List Nat} {N mst bst : Nat → Nat} {ρ : Nat → Nat → Int32} {a c : Nat → Int32} {i : Nat}
theorem hc_bIs0 (hI : Inv C J N mst bst ρ a c) (hi : i < N 1) (lw : va_W) : HC l D T ea mi sa yL_billetIs wsL_billetIs lw J ad N mst bst ρ N ρ [.ref (ad 0), .int (nI i), .int 0] (ρ (100 + 3 * i) 7) := by
  obtain ⟨i12, c1, c2⟩ := I_liB hI hi
  exact hc7 hI hi (lk_billetIs l D T ea mi sa _ (nI i) 0 (zI_H (ch_billetIs_0 l D T _ ad _ _ _ _ _ _ _ _ _ _ _ _ _ _ i hi c1 c2 (liF_at hi))) ⟨rfl, rfl⟩ (fun _ _ _ => rfl) (fun _ => Nat.le_refl _)) ⟨by decide, by decide, by decide, by decide⟩ ⟨by decide, by decide⟩ lw
theorem hc_bIs1 (hI : Inv C J N mst bst ρ a c) (hi : i < N 1) (lw : va_W) : HC l D T ea mi sa yL_billetIs wsL_billetIs lw J ad N mst bst ρ N ρ [.ref (ad 0), .int (nI i), .int 1] (ρ (100 + 3 * i) 8) := by
  obtain ⟨i12, c1, c2⟩ := I_liB hI hi
  exact hc7 hI hi (lk_billetIs l D T ea mi sa _ (nI i) 1 (zI_H (ch_billetIs_1 l D T _ ad _ _ _ _ _ _ _ _ _ _ _ _ _ _ i hi c1 c2 (liF_at hi))) ⟨rfl, rfl⟩ (fun _ _ _ => rfl) (fun _ => Nat.le_refl _)) ⟨by decide, by decide, by decide, by decide⟩ ⟨by decide, by decide⟩ lw
theorem hc_bIs2 (hI : Inv C J N mst bst ρ a c) (hi : i < N 1) (lw : va_W) : HC l D T ea mi sa yL_billetIs wsL_billetIs lw J ad N mst bst ρ N ρ [.ref (ad 0), .int (nI i), .int 2] (VO (ρ (101 + 3 * i)) 0) := by
  obtain ⟨i12, c1, c2⟩ := I_liB hI hi
  exact hc7 hI hi (lk_billetIs l D T ea mi sa _ (nI i) 2 (zI_H (ch_billetIs_2 l D T _ ad _ _ _ _ _ _ _ _ _ _ _ _ _ _ i hi c1 c2 (liF_at hi))) ⟨rfl, rfl⟩ (fun _ _ _ => rfl) (fun _ => Nat.le_refl _)) ⟨by decide, by decide, by decide, by decide⟩ ⟨by decide, by decide⟩ lw
theorem hc_bIs3 (hI : Inv C J N mst bst ρ a c) (hi : i < N 1) (lw : va_W) : HC l D T ea mi sa yL_billetIs wsL_billetIs lw J ad N mst bst ρ N ρ [.ref (ad 0), .int (nI i), .int 3] (ρ (100 + 3 * i) 9) := by
  obtain ⟨i12, c1, c2⟩ := I_liB hI hi
  exact hc7 hI hi (lk_billetIs l D T ea mi sa _ (nI i) 3 (zI_H (ch_billetIs_3 l D T _ ad _ _ _ _ _ _ _ _ _ _ _ _ _ _ i hi c1 c2 (liF_at hi))) ⟨rfl, rfl⟩ (fun _ _ _ => rfl) (fun _ => Nat.le_refl _)) ⟨by decide, by decide, by decide, by decide⟩ ⟨by decide, by decide⟩ lw
theorem hc_bIs4 (hI : Inv C J N mst bst ρ a c) (hi : i < N 1) (lw : va_W) : HC l D T ea mi sa yL_billetIs wsL_billetIs lw J ad N mst bst ρ N ρ [.ref (ad 0), .int (nI i), .int 4] (ρ (100 + 3 * i) 10) := by
  obtain ⟨i12, c1, c2⟩ := I_liB hI hi
  exact hc7 hI hi (lk_billetIs l D T ea mi sa _ (nI i) 4 (zI_H (ch_billetIs_4 l D T _ ad _ _ _ _ _ _ _ _ _ _ _ _ _ _ i hi c1 c2 (liF_at hi))) ⟨rfl, rfl⟩ (fun _ _ _ => rfl) (fun _ => Nat.le_refl _)) ⟨by decide, by decide, by decide, by decide⟩ ⟨by decide, by decide⟩ lw
theorem hc_bIs5 (hI : Inv C J N mst bst ρ a c) (hi : i < N 1) (lw : va_W) : HC l D T ea mi sa yL_billetIs wsL_billetIs lw J ad N mst bst ρ N ρ [.ref (ad 0), .int (nI i), .int 5] (ρ (100 + 3 * i) 11) := by
  obtain ⟨i12, c1, c2⟩ := I_liB hI hi
  exact hc7 hI hi (lk_billetIs l D T ea mi sa _ (nI i) 5 (zI_H (ch_billetIs_5 l D T _ ad _ _ _ _ _ _ _ _ _ _ _ _ _ _ i hi c1 c2 (liF_at hi))) ⟨rfl, rfl⟩ (fun _ _ _ => rfl) (fun _ => Nat.le_refl _)) ⟨by decide, by decide, by decide, by decide⟩ ⟨by decide, by decide⟩ lw
theorem hc_bIs6 (hI : Inv C J N mst bst ρ a c) (hi : i < N 1) (lw : va_W) : HC l D T ea mi sa yL_billetIs wsL_billetIs lw J ad N mst bst ρ N ρ [.ref (ad 0), .int (nI i), .int 6] (if ρ (100 + 3 * i) 12 = 0 then 0 else 1) := by
  obtain ⟨i12, c1, c2⟩ := I_liB hI hi
  exact hc7 hI hi (lk_billetIs l D T ea mi sa _ (nI i) 6 (zI_H (ch_billetIs_6 l D T _ ad _ _ _ _ _ _ _ _ _ _ _ _ _ _ i hi c1 c2 (liF_at hi))) ⟨rfl, rfl⟩ (fun _ _ _ => rfl) (fun _ => Nat.le_refl _)) ⟨by decide, by decide, by decide, by decide⟩ ⟨by decide, by decide⟩ lw
theorem hc_bIs7 (hI : Inv C J N mst bst ρ a c) (hi : i < N 1) (lw : va_W) : HC l D T ea mi sa yL_billetIs wsL_billetIs lw J ad N mst bst ρ N ρ [.ref (ad 0), .int (nI i), .int 7] (ρ (100 + 3 * i) 13) := by
  obtain ⟨i12, c1, c2⟩ := I_liB hI hi
  exact hc7 hI hi (lk_billetIs l D T ea mi sa _ (nI i) 7 (zI_H (ch_billetIs_7 l D T _ ad _ _ _ _ _ _ _ _ _ _ _ _ _ _ i hi c1 c2 (liF_at hi))) ⟨rfl, rfl⟩ (fun _ _ _ => rfl) (fun _ => Nat.le_refl _)) ⟨by decide, by decide, by decide, by decide⟩ ⟨by decide, by decide⟩ lw
theorem hc_bIs8 (hI : Inv C J N mst bst ρ a c) (hi : i < N 1) (lw : va_W) : HC l D T ea mi sa yL_billetIs wsL_billetIs lw J ad N mst bst ρ N ρ [.ref (ad 0), .int (nI i), .int 8] (ρ (100 + 3 * i) 14) := by
  obtain ⟨i12, c1, c2⟩ := I_liB hI hi
  exact hc7 hI hi (lk_billetIs l D T ea mi sa _ (nI i) 8 (zI_H (ch_billetIs_8 l D T _ ad _ _ _ _ _ _ _ _ _ _ _ _ _ _ i hi c1 c2 (liF_at hi))) ⟨rfl, rfl⟩ (fun _ _ _ => rfl) (fun _ => Nat.le_refl _)) ⟨by decide, by decide, by decide, by decide⟩ ⟨by decide, by decide⟩ lw
theorem hc_bIs9 (hfl : l.stackTraces = false) (hI : Inv C J N mst bst ρ a c) (hi : i < N 1) (lw : va_W) : HC l D T ea mi sa yL_billetIs wsL_billetIs lw J ad N mst bst ρ N ρ [.ref (ad 0), .int (nI i), .int 9] (-1000002) := by
  obtain ⟨i12, c1, c2⟩ := I_liB hI hi
  exact hc4 hI hi (lk_billetIs_2 l D T ea mi sa _ (nI i) 9 (ch_billetIs_a l hfl D T ea mi sa _ ad _ _ _ _ _ _ _ _ _ _ _ i hi c1 c2 (liF_at hi) 9 (Or.inr (by decide))) ⟨rfl, rfl⟩) ⟨by decide, by decide, by decide, by decide⟩ ⟨by decide, by decide⟩ lw
theorem hc_area (hI : Inv C J N mst bst ρ a c) (hi : i < N 1) {j : Nat} (hj : j < 8) (lw : va_W) : HC l D T ea mi sa yL_area wsL_area lw J ad N mst bst ρ N ρ [.ref (ad 0), .int (nI i), .int (nI j)] (ρ (101 + 3 * i) j) := by
  obtain ⟨i12, c1, c2⟩ := I_liB hI hi
  exact hc7 hI hi (lk_area l D T ea mi sa _ (nI i) (nI j) (zI_H (ch_area l D T _ ad _ _ _ _ _ _ _ _ _ _ _ _ _ _ i hi c1 c2 (liF_at hi) j hj)) ⟨rfl, rfl⟩ (fun _ _ _ => rfl) (fun _ => Nat.le_refl _)) ⟨by decide, by decide, by decide, by decide⟩ ⟨by decide, by decide⟩ lw
theorem hc_area8 (hfl : l.stackTraces = false) (hI : Inv C J N mst bst ρ a c) (hi : i < N 1) (lw : va_W) : HC l D T ea mi sa yL_area wsL_area lw J ad N mst bst ρ N ρ [.ref (ad 0), .int (nI i), .int 8] (-1000001) := by
  obtain ⟨i12, c1, c2⟩ := I_liB hI hi
  exact hc4 hI hi (lk_area_1 l D T ea mi sa _ (nI i) 8 (ch_area_s l hfl D T ea mi sa _ ad _ _ _ _ _ _ _ _ _ _ _ i hi c1 c2 (liF_at hi) 8 (Or.inr (by decide))) ⟨rfl, rfl⟩) ⟨by decide, by decide, by decide, by decide⟩ ⟨by decide, by decide⟩ lw
/-- how hard a section is -/
def hdv (β κ : Nat → Int32) (j : Nat) : Int32 := if β 14 = -1 then 0 else hrc (κ j) (β 16)
/-- quenched as load ld, tempered at n, the sections' hardness by the quench is kk -/
def QN (β κ : Nat → Int32) (ld : Nat) (kk : Nat → Nat) (n : Nat) : Prop := β 14 = nI ld ∧ β 16 = nI n ∧ (100 ≤ n ∧ n ≤ 700) ∧ ∀ j, j < 8 → κ j = nI (kk j) ∧ kk j ≤ 70
def hvq (kk : Nat → Nat) (n j : Nat) : Nat := kk j - (n - 100) / 20
theorem QN_of {n3 : Nat} {β κ : Nat → Int32} (h : LDc n3 β κ) (h1 : ¬ β 14 = -1) : ∃ (ld : Nat) (kk : Nat → Nat) (n : Nat), ld < n3 ∧ QN β κ ld kk n := by
  rcases h with h | ⟨ld, h2, h3, ⟨n, n1, n2, n3⟩, h4⟩
  · exact absurd h h1
  · refine ⟨ld, fun j => (κ j).toNatClampNeg, n, h2, h3, n3, ⟨n1, n2⟩, fun j hj => ?_⟩
    obtain ⟨k, -, k2, k3⟩ := h4 j hj
    have e : (κ j).toNatClampNeg = k := by rw [k3, nI_clamp (by omega)]
    show κ j = nI (κ j).toNatClampNeg ∧ (κ j).toNatClampNeg ≤ 70
    rw [e]
    exact ⟨k3, k2⟩
theorem QN_14 {β κ : Nat → Int32} {ld n : Nat} {kk : Nat → Nat} (hl : ld < 20) (h : QN β κ ld kk n) : ¬ β 14 = -1 := by
  rw [h.1]
  exact nm1 (by omega)
theorem QN_hd {β κ : Nat → Int32} {ld n : Nat} {kk : Nat → Nat} (hl : ld < 20) (h : QN β κ ld kk n) {j : Nat} (hj : j < 8) : hdv β κ j = nI (hvq kk n j) ∧ hvq kk n j ≤ 70 := by
  have h1 := QN_14 hl h
  obtain ⟨-, h2, ⟨h3, h4⟩, h5⟩ := h
  obtain ⟨h6, h7⟩ := h5 j hj
  refine ⟨?_, Nat.le_trans (Nat.sub_le _ _) h7⟩
  unfold hdv
  rw [if_neg h1, h2, h6]
  exact hrc_n h7 h3 h4
theorem hdv_n {n3 : Nat} {β κ : Nat → Int32} (hn : n3 ≤ 20) (h : LDc n3 β κ) : ∃ hv : Nat → Nat, (∀ j, j < 8 → hdv β κ j = nI (hv j) ∧ hv j ≤ 70) ∧ (β 14 = -1 → ∀ j, hv j = 0) := by
  by_cases h1 : β 14 = -1
  · refine ⟨fun _ => 0, fun j _ => ⟨?_, Nat.zero_le _⟩, fun _ _ => rfl⟩
    unfold hdv
    rw [if_pos h1]
    rfl
  · obtain ⟨ld, kk, n, h2, h3⟩ := QN_of h h1
    exact ⟨hvq kk n, fun j hj => QN_hd (by omega) h3 hj, fun h4 => absurd h4 h1⟩
theorem LDc_ld {n3 : Nat} {β κ : Nat → Int32} (h : LDc n3 β κ) : β 14 = -1 ∨ ∃ ld, ld < n3 ∧ β 14 = nI ld := h.elim Or.inl (fun ⟨ld, h1, h2, _⟩ => Or.inr ⟨ld, h1, h2⟩)
theorem hc_hard (hI : Inv C J N mst bst ρ a c) (hi : i < N 1) {j : Nat} (hj : j < 8) (lw : va_W) : HC l D T ea mi sa yL_hardness wsL_hardness lw J ad N mst bst ρ N ρ [.ref (ad 0), .int (nI i), .int (nI j)] (hdv (ρ (100 + 3 * i)) (ρ (102 + 3 * i)) j) := by
  obtain ⟨i12, c1, c2⟩ := I_liB hI hi
  exact hc7 hI hi (lk_hardness l D T ea mi sa _ (nI i) (nI j) (zI_H (ch_hardness l D T _ ad _ _ _ _ _ _ _ _ _ _ _ _ _ _ i hi c1 c2 (liF_at hi) j hj)) ⟨rfl, rfl⟩ (fun _ _ _ => rfl) (fun _ => Nat.le_refl _)) ⟨by decide, by decide, by decide, by decide⟩ ⟨by decide, by decide⟩ lw
theorem VL_bal {β α : Nat → Int32} {A : Nat} (h : VLc β α A) (h3 : β 3 = nI (8 * A)) : VO α 0 = β 3 - β 4 - β 5 - β 6 := by
  obtain ⟨v, x, y, z, h1, h4, h5, h6, h7⟩ := h
  rw [vS_VO h1, h3, h4, h5, h6, pk_sub (show x ≤ 8 * A by omega), pk_sub (show y ≤ 8 * A - x by omega), pk_sub (show z ≤ 8 * A - x - y by omega), show 8 * A - x - y - z = v by omega]
theorem hc_bal (hI : Inv C J N mst bst ρ a c) (hi : i < N 1) (lw : va_W) : HC l D T ea mi sa yL_balances wsL_balances lw J ad N mst bst ρ N ρ [.ref (ad 0), .int (nI i)] 1 := by
  obtain ⟨i12, c1, c2⟩ := I_liB hI hi
  obtain ⟨A, A1, A2, A3, A4⟩ := (I_B hI hi).2.1
  have hw := hc7 hI hi (lk_balances l D T ea mi sa _ (nI i) (zI_H (ch_balances l D T _ ad _ _ _ _ _ _ _ _ _ _ _ _ _ _ i hi c1 c2 (liF_at hi))) ⟨rfl, rfl⟩ (fun _ _ _ => rfl) (fun _ => Nat.le_refl _)) ⟨by decide, by decide, by decide, by decide⟩ ⟨by decide, by decide⟩ lw
  rw [if_pos (VL_bal A4 A3), if_neg (show ¬ (1 : Int32) = 0 by decide)] at hw
  exact hw
theorem isl_20 {ld : Nat} (h : ld < 20) : ¬ isl (nI ld) (nI 20) = 0 := by
  rw [isl1 h (Nat.le_refl 20)]
  decide
theorem n11 {v : Int32} {C : Nat} (h : nbd 0 C v) (hC : C < 2 ^ 30) (h0 : ¬ 0 < v) : v = 0 := by
  obtain ⟨n, -, n2, rfl⟩ := h
  have : ¬ 0 < n := fun q => h0 ((nI_ltI (a := 0) (by decide) (by omega)).mpr q)
  rw [show n = 0 by omega]
  rfl
/-- what a paper's answer says -/
def PPc (β κ : Nat → Int32) (n : Nat) (k : Int32) : Prop := (k = -1 ∨ (β 12 = 0 ∧ β 11 = 0 ∧ ¬ β 14 = -1)) ∧ (∀ hv : Nat → Nat, (∀ j, j < 8 → hdv β κ j = nI (hv j) ∧ hv j ≤ 70) → mn8 hv 7 < n → k = -1) ∧ (β 17 = 0 → k = -1)
theorem hc_paper (hCb : C < 2 ^ 30) (hI : Inv C J N mst bst ρ a c) (hi : i < N 1) {n : Nat} (hn : n ≤ 70) : ∃ k, PPc (ρ (100 + 3 * i)) (ρ (102 + 3 * i)) n k ∧ ∀ lw, HC l D T ea mi sa yL_paper wsL_paper lw J ad N mst bst ρ N ρ [.ref (ad 0), .int (nI i), .int (nI n)] k := by
  obtain ⟨i12, c1, c2⟩ := I_liB hI hi
  have hB := I_B hI hi
  have hN3 := hI.2.2.2.1.1
  have h1 : ¬ nI n < 0 := fun q => nI_pos (show n < 2 ^ 31 by omega) q
  have h2 : nI n ≤ 70 := (nI_leI (b := 70) (by omega) (by decide)).mpr hn
  have hno : ρ (100 + 3 * i) 17 = 0 ∨ ¬ ρ (100 + 3 * i) 12 = 0 ∨ 0 < ρ (100 + 3 * i) 11 ∨ isl (ρ (100 + 3 * i) 14) (nI 20) = 0 → ∃ k, PPc (ρ (100 + 3 * i)) (ρ (102 + 3 * i)) n k ∧ ∀ lw, HC l D T ea mi sa yL_paper wsL_paper lw J ad N mst bst ρ N ρ [.ref (ad 0), .int (nI i), .int (nI n)] k := fun hn9 =>
    ⟨-1, ⟨Or.inl rfl, fun _ _ _ => rfl, fun _ => rfl⟩, fun lw => hcT hI hi (lk_paper l D T ea mi sa _ (nI i) (nI n) (zI_H (ch_paper_n l D T _ ad _ _ _ _ _ _ _ _ _ _ _ i hi c1 c2 (liF_at hi) (ρ 9) (nI n) h1 h2 hn9)) ⟨rfl, rfl⟩ (fun _ _ _ => rfl) (fun _ => Nat.le_refl _)) ⟨by decide, by decide, by decide, by decide⟩ ⟨by decide, by decide⟩ lw⟩
  by_cases q17 : ρ (100 + 3 * i) 17 = 0
  · exact hno (Or.inl q17)
  by_cases q12 : ρ (100 + 3 * i) 12 = 0
  · by_cases q11 : 0 < ρ (100 + 3 * i) 11
    · exact hno (Or.inr (Or.inr (Or.inl q11)))
    · by_cases q14 : ρ (100 + 3 * i) 14 = -1
      · exact hno (Or.inr (Or.inr (Or.inr (by rw [q14]; rfl))))
      · obtain ⟨ld, kk, m, g1, g2⟩ := QN_of hB.2.2.2.2.2.2.2.2.2.1 q14
        refine ⟨_, ⟨Or.inr ⟨q12, n11 hB.2.2.2.2.2.2.1 hCb q11, q14⟩, fun hv g3 g4 => ?_, fun q => absurd q q17⟩, fun lw => hc8 hI hi (lk_paper l D T ea mi sa _ (nI i) (nI n) (zI_H (ch_paper l D T _ ad _ _ _ _ _ _ _ _ _ _ _ _ _ _ i hi c1 c2 (liF_at hi) (ρ 9) ld (by omega) g2.1 (isl_20 (by omega)) (nI n) h1 h2 q17 q12 q11)) ⟨rfl, rfl⟩ (fun _ _ _ => rfl) (fun _ => Nat.le_refl _)) ⟨by decide, by decide, by decide, by decide⟩ ⟨by decide, by decide⟩ lw⟩
        obtain ⟨g5, g6, -⟩ := LH_n g3
        have g7 : LH (fun j => if ρ (100 + 3 * i) 14 = -1 then 0 else hrc (ρ (102 + 3 * i) j) (ρ (100 + 3 * i) 16)) = nI (mn8 hv 7) := g5
        rw [g7, if_pos (show nI (mn8 hv 7) < nI n from (nI_ltI (by omega) (by omega)).mpr g4)]
        exact ite_self _
  · exact hno (Or.inr (Or.inl q12))
end HC1
