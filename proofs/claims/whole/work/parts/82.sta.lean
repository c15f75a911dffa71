/-! ===== steps: a steel; births ===== -/
theorem stf_at (ad : Nat → Nat) {j : Nat} (h : j < 4) : stf ad j = some (ad (2 + j)) := by
  have e : j = 0 ∨ j = 1 ∨ j = 2 ∨ j = 3 := by omega
  rcases e with rfl | rfl | rfl | rfl <;> rfl
section STA
variable {l : Launch} {D : va_G} {T : Nat → ClassId} {ea mi : Nat} {sa : Nat → Nat} {om : Nat} {am : Nat → Nat}
variable {C : Nat} {ad : Nat → Nat} {J : List Nat} {N mst bst : Nat → Nat} {ρ σ : Nat → Nat → Int32} {f : Nat → Int64}

/-- a steel is laid: nothing is answered -/
def StepS (l : Launch) (D : va_G) (T : Nat → ClassId) (ea mi : Nat) (sa : Nat → Nat) (om : Nat) (am : Nat → Nat) (C : Nat) (ad : Nat → Nat) (J : List Nat) (N mst bst : Nat → Nat) (ρ σ : Nat → Nat → Int32) (f : Nat → Int64) (x y z w : Int32) : Prop :=
  ∃ (k : Int32) (σ' : Nat → Nat → Int32) (rm : Room) (mc ms : Nat) (ρ' : Nat → Nat → Int32),
    ZIH l yL_steel wsL_steel rm (zX ea mi sa) D T (S := Unit) (Wk J ad T ea f N mst bst ρ) (fun _ => ouW (ad 16) T f :: iw J ad (hG ad T ea f N mst bst ρ')) [.ref (ad 0), .int x, .int y, .int z, .int w] k mc ms ∧ (rm.cells = mc ∧ rm.slots = ms ∧ rm.frames + 1 ≤ 11 ∧ 8 + (6 + 11) + rm.locals ≤ 404) ∧ (mc ≤ 5 ∧ ms ≤ 70) ∧
    ZV l yX6_steel wsX6_steel (zrm 1 23) D T (mW om am T σ) (mW om am T σ') [.ref om, .int x, .int y, .int z, .int w] 0 0 ∧ σ' 31 0 = k ∧ Inv (C + 1) J N mst bst ρ' σ'
theorem Inv_S {C' : Nat} (hC : C ≤ C') {j : Nat} (hj : j < 4) {ρ' σ' : Nat → Nat → Int32} (hI : Inv C J N mst bst ρ σ) (hr : ∀ k, k ≠ 2 + j → ρ' k = ρ k) (hs : ∀ k, k < 29 → 2 < k → σ' k = σ k) (hS : SIv ρ' σ') : Inv C' J N mst bst ρ' σ' := by
  obtain ⟨h1, h2, h3, h4, h5, h6, h7, h8⟩ := hI
  refine ⟨?_, hS, ?_, ?_, ?_, ?_, ?_, fun i hi => ?_⟩
  · unfold CIv at h1 ⊢
    rw [hs 3 (by decide) (by decide), hs 5 (by decide) (by decide), hs 21 (by decide) (by decide)]
    exact h1
  · unfold MIv at h3 ⊢
    rw [hs 4 (by decide) (by decide)]
    exact h3
  · unfold LIv at h4 ⊢
    rw [hs 24 (by decide) (by decide), hs 25 (by decide) (by decide), hr 0 (by omega), hr 9 (by omega)]
    exact h4
  · unfold ZIv at h5 ⊢
    rw [hs 12 (by decide) (by decide), hs 13 (by decide) (by decide), hs 14 (by decide) (by decide), hs 17 (by decide) (by decide), hs 18 (by decide) (by decide), hs 20 (by decide) (by decide), hs 8 (by decide) (by decide)]
    exact h5
  · unfold DIv at h6 ⊢
    rw [hs 22 (by decide) (by decide), hs 23 (by decide) (by decide)]
    exact fun d hd => by rw [hr (200 + 2 * d) (by omega), hr (201 + 2 * d) (by omega)]; exact h6 d hd
  · unfold JIv at h7 ⊢
    rw [hs 26 (by decide) (by decide), hs 27 (by decide) (by decide), hs 28 (by decide) (by decide), hr 14 (by omega), hr 15 (by omega)]
    exact h7
  · rw [hr (100 + 3 * i) (by omega), hr (101 + 3 * i) (by omega), hr (102 + 3 * i) (by omega)]
    exact BIv_sig (BIv_le hC (h8 i hi)) (fun k hk => by rw [hs k (by omega) (by omega)]) (fun k j hk hj => by rw [hs k (by omega) (by omega)])
theorem steS_bad (hI : Inv C J N mst bst ρ σ) {x y z w : Int32} {js : List Nat} (hjs : js.Nodup) (hl : ∀ j ∈ js, liv N j) {W : va_W} (e : iw js ad (hG ad T ea f N mst bst ρ) = W) {rm : Room} {k : Int32}
    (hw : ZIH l yL_steel wsL_steel rm (zX ea mi sa) D T (S := Unit) (ouW (ad 16) T f :: W) (fun _ => ouW (ad 16) T f :: W) [.ref (ad 0), .int x, .int y, .int z, .int w] k 1 6) (hrm : rm.cells = 1 ∧ rm.slots = 6 ∧ rm.frames + 1 ≤ 11 ∧ 8 + (6 + 11) + rm.locals ≤ 404)
    (hm : ZV l yX6_steel wsX6_steel (zrm 1 23) D T (mW om am T σ) (mW om am T (upS σ 31 (fun _ => k))) [.ref om, .int x, .int y, .int z, .int w] 0 0) : StepS l D T ea mi sa om am C ad J N mst bst ρ σ f x y z w := by
  subst e
  exact ⟨k, _, rm, 1, 6, ρ, fr_wk hI hjs hl hw (fun _ _ => rfl), hrm, ⟨by decide, by decide⟩, hm, rfl, Inv_read (Nat.le_succ C) hI (fun j hj => upS_ne σ _ (show j ≠ 31 by omega))⟩
theorem st_steel (hfl : l.stackTraces = false) (_hC : C ≤ 600) (hI : Inv C J N mst bst ρ σ) (x y z w : Int32) : StepS l D T ea mi sa om am C ad J N mst bst ρ σ f x y z w := by
  rcases bin_01 x 0 3 with hb | hb
  · have hv : x < 0 ∨ (4 : Int32) ≤ x := bin_n0 (v := x) (n := 4) (by decide) hb
    have hg : gth (bin x 0 3) (if bin y 1 9 = 0 then 0 else if bin z 20 70 = 0 then 0 else if bin w 0 9 = 0 then 0 else 1) 1 = 1 := by rw [hb]; rfl
    have hm := cm_steel_bad l D T om am σ x y z w (by rw [hg]; decide)
    rw [hg] at hm
    exact steS_bad (js := [0]) hI (by decide) (fun j hj => by simp only [List.mem_cons, List.not_mem_nil, or_false] at hj; unfold liv; omega) rfl (lk_steel_1 l D T ea mi sa _ (ad 16) f x y z w (ch_steel_b l hfl D T ea mi sa (ad 0) ad (ρ 0 0) x y z w hv) ⟨rfl, rfl⟩) ⟨rfl, rfl, by decide, by decide⟩ hm
  · obtain ⟨j, hj, rfl⟩ : ∃ j, j < 4 ∧ x = nI j := bin_n1 (v := x) (n := 4) (by decide) hb
    by_cases hok : bin y 1 9 = 1 ∧ bin z 20 70 = 1 ∧ bin w 0 9 = 1
    · obtain ⟨k1, k2, k3⟩ := hok
      have hm := cm_steel_ok l D T om am σ j y z w hj hb k1 k2 k3
      have hw := lk_steel l D T ea mi sa _ (ad 16) f (nI j) y z w (zV_H (ch_steel l D T (ad 0) ad (ρ 0 0) (stf ad) (ad (2 + j)) j (ρ (2 + j)) hj (stf_at ad hj) y z w (bin_k1 k1).1 (bin_k1 k1).2 (bin_k1 k2).1 (bin_k1 k2).2 (bin_k1 k3).1 (bin_k1 k3).2)) ⟨rfl, rfl⟩ (fun _ _ _ => rfl) (fun _ => Nat.le_refl _)
      obtain ⟨ρ', hρ⟩ : ∃ q, q = upR ρ (2 + j) (fun k => if k = 0 then y else if k = 1 then z else w) := ⟨_, rfl⟩
      have r5 : ρ' (2 + j) = fun k => if k = 0 then y else if k = 1 then z else w := by rw [hρ]; exact upR_at _ _ _
      have ro : ∀ k, k ≠ 2 + j → ρ' k = ρ k := fun k hk => by rw [hρ]; exact upR_ne _ _ hk
      have eA : iw [0, 1, 2 + j] ad (hG ad T ea f N mst bst ρ) = [(ad 0, .inr (6, hsF ad (ρ 0 0))), (ad 1, .inl (T 4, 4, qa (stf ad))), (ad (2 + j), .inr (5, [.int (ρ (2 + j) 0), .int (ρ (2 + j) 1), .int (ρ (2 + j) 2)]))] := by
        rw [iw_cons, iw_cons, iw_cons, iw_nil, hG_s hj]
        rfl
      have eB : iw [0, 1, 2 + j] ad (hG ad T ea f N mst bst ρ') = [(ad 0, .inr (6, hsF ad (ρ 0 0))), (ad 1, .inl (T 4, 4, qa (stf ad))), (ad (2 + j), .inr (5, [.int y, .int z, .int w]))] := by
        rw [iw_cons, iw_cons, iw_cons, iw_nil, hG_s hj, r5, ← ro 0 (by omega)]
        rfl
      rw [← eA, ← eB] at hw
      refine ⟨0, _, _, 0, 0, ρ', fr_wk hI ?_ (fun k hk => ?_) hw (fun k hk => ?_), ⟨rfl, rfl, by decide, by decide⟩, ⟨by decide, by decide⟩, hm, rfl, Inv_S (Nat.le_succ C) hj hI ro (fun k h1 h2 => (upS_ne _ _ (show k ≠ 31 by omega)).trans ((upS_ne _ _ (show k ≠ 2 by omega)).trans ((upS_ne _ _ (show k ≠ 1 by omega)).trans (upS_ne _ _ (show k ≠ 0 by omega))))) (fun s hs => ?_)⟩
      · simp only [List.nodup_cons, List.mem_cons, List.not_mem_nil, or_false, List.nodup_nil, and_true, not_false_eq_true]
        omega
      · simp only [List.mem_cons, List.not_mem_nil, or_false] at hk
        unfold liv
        omega
      · simp only [List.mem_cons, List.not_mem_nil, or_false, not_or] at hk
        exact ro k hk.2.2
      · by_cases e : s = j
        · subst e
          rw [r5]
          exact ⟨(upd_same (σ 0) s y).symm, (upd_same (σ 1) s z).symm, (upd_same (σ 2) s w).symm⟩
        · rw [ro (2 + s) (by omega)]
          obtain ⟨q1, q2, q3⟩ := hI.2.1 s hs
          exact ⟨q1.trans (upd_ne (σ 0) y e).symm, q2.trans (upd_ne (σ 1) z e).symm, q3.trans (upd_ne (σ 2) w e).symm⟩
    · have e0 : (if bin y 1 9 = 0 then 0 else if bin z 20 70 = 0 then 0 else if bin w 0 9 = 0 then (0 : Int32) else 1) = 0 ∧ (y < 1 ∨ 9 < y ∨ z < 20 ∨ 70 < z ∨ w < 0 ∨ 9 < w) := by
        rcases bin_01 y 1 9 with a | a
        · exact ⟨if_pos a, (bin0.mp a).elim (fun q => Or.inl q) (fun q => Or.inr (Or.inl q))⟩
        · rcases bin_01 z 20 70 with b | b
          · exact ⟨by rw [a, b]; rfl, (bin0.mp b).elim (fun q => Or.inr (Or.inr (Or.inl q))) (fun q => Or.inr (Or.inr (Or.inr (Or.inl q))))⟩
          · rcases bin_01 w 0 9 with c | c
            · exact ⟨by rw [a, b, c]; rfl, (bin0.mp c).elim (fun q => Or.inr (Or.inr (Or.inr (Or.inr (Or.inl q))))) (fun q => Or.inr (Or.inr (Or.inr (Or.inr (Or.inr q)))))⟩
            · exact absurd ⟨a, b, c⟩ hok
      have hg : gth (bin (nI j) 0 3) (if bin y 1 9 = 0 then 0 else if bin z 20 70 = 0 then 0 else if bin w 0 9 = 0 then 0 else 1) 1 = 2 := by rw [hb, e0.1]; rfl
      have hm := cm_steel_bad l D T om am σ (nI j) y z w (by rw [hg]; decide)
      rw [hg] at hm
      exact steS_bad (js := [0, 1]) hI (by decide) (fun j hj => by simp only [List.mem_cons, List.not_mem_nil, or_false] at hj; unfold liv; omega) rfl (lk_steel_2 l D T ea mi sa _ (ad 16) f (nI j) y z w (ch_steel_a l hfl D T ea mi sa (ad 0) ad (ρ 0 0) (stf ad) (ad (2 + j)) j hj (stf_at ad hj) y z w e0.2) ⟨rfl, rfl⟩) ⟨rfl, rfl, by decide, by decide⟩ hm
end STA
