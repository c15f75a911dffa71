/-! ===== steps: the first act ===== -/
section FIRST
variable {l : Launch} {D : va_G} {T : Nat → ClassId} {ea mi : Nat} {sa : Nat → Nat} {om : Nat} {am : Nat → Nat}
variable {C : Nat} {ad : Nat → Nat} {J : List Nat} {N mst bst : Nat → Nat} {ρ σ : Nat → Nat → Int32} {f : Nat → Int64}

/-- the openings of the search are the least first acts -/
def OPok : Prop := ∀ (f0 f1 f2 : Nat → Int32) (p t : Nat), p < 256 → t < 256 → OP f0 f2 f1 p t = fstA p t
theorem st_first (hOP : OPok) (hfl : l.stackTraces = false) (hC : C ≤ 600) (hI : Inv C J N mst bst ρ σ) (x y : Int32) : StepR l D T ea mi sa yL_first wsL_first 5 [.ref (ad 0), .int x, .int y, .ref (ad 16)] yX6_first wsX6_first (zrm 3 71) [.ref om, .int x, .int y] (fun r => r.toInt64) om am C ad J N mst bst ρ σ f := by
  have hn := hI.1.2.2.2.1
  have h5 := hI.1.2.2.2.2.2.2.1
  rcases bin_01 x 0 (σ 5 0 - 1) with hb | hb
  · have hv := bin_n0 (by omega) (h5 ▸ hb)
    have hg : gth (bin x 0 (σ 5 0 - 1)) (bin y 0 255) 1 = 1 := by rw [hb]; rfl
    have hm := cm_first_bad l D T om am σ x y (by rw [hg]; decide)
    rw [hg] at hm
    exact badL hI (lk_first_1 l D T ea mi sa _ _ f x y (ch_first_b l hfl D T ea mi sa _ ad _ _ _ (N 1) x y hv) ⟨rfl, rfl⟩) ⟨rfl, rfl, by decide, by decide⟩ (by decide) hm
  · obtain ⟨i, hi, rfl⟩ := bin_n1 (by omega) (h5 ▸ hb)
    obtain ⟨i12, c1, c2⟩ := liB hI hi
    obtain ⟨⟨mo, hmo, b0, s6, bs⟩, ⟨b3, b456⟩, ⟨b7, w7⟩, ⟨b8, w8⟩, b9, ⟨b10, w10⟩, ⟨b11, w11⟩, ⟨b12, w12⟩, ⟨p9, hp9, b13, s15⟩, hld, hpt, har⟩ := hI.2.2.2.2.2.2.2 i hi
    rcases bin_01 y 0 255 with hs | hs
    · have hg : gth (bin (nI i) 0 (σ 5 0 - 1)) (bin y 0 255) 1 = 2 := by rw [hb, hs]; rfl
      have hm := cm_first_bad l D T om am σ (nI i) y (by rw [hg]; decide)
      rw [hg] at hm
      exact bad4 hI hi (lk_first_2 l D T ea mi sa _ _ f (nI i) y (ch_first_p l hfl D T ea mi sa _ ad _ _ _ _ _ _ _ _ _ _ _ i hi c1 c2 (liF_at hi) y (bin_n0 (n := 256) (by decide) hs)) ⟨rfl, rfl⟩) ⟨rfl, rfl, by decide, by decide⟩ (by decide) hm
    · obtain ⟨t, ht, rfl⟩ := bin_n1 (v := y) (n := 256) (by decide) hs
      have hm := cm_first_ok l D T om am σ i p9 t i12 hp9 ht hb hs s15
      rw [← hOP (ρ 11) (ρ 12) (ρ 13) p9 t hp9 ht] at hm
      exact okQ (S2 := (Nat → Int32) × (Nat → Int32)) hI hi (lk_first l D T ea mi sa _ _ f (nI i) (nI t) (zI_H (ch_first l D T _ ad _ _ _ _ _ _ _ _ _ _ _ i hi c1 c2 (liF_at hi) (ρ 11) (ρ 12) (ρ 13) p9 t hp9 ht b13)) ⟨rfl, rfl⟩ (fun _ _ _ => rfl) (fun _ => Nat.le_refl _)) ⟨rfl, rfl, by decide, by decide⟩ (zX_M hm) (fun _ => rfl) (fun _ k hk => (upS_ne _ _ (show k ≠ 31 by omega)).trans ((upS_ne _ _ (show k ≠ 30 by omega)).trans (upS_ne _ _ (show k ≠ 29 by omega))))
end FIRST
