/-! ===== steps: a new billet ===== -/
theorem zIH_perm {l : Launch} {y : MethodName} {wsy : List Cond} {rm : Room} {P : (Nat → Prop) → State → Heap → Prop} {D : va_G} {T : Nat → ClassId} {S : Type} {w : va_W} {w1 w2 : S → va_W} {as : List Value} {rv : Int32} {mc ms : Nat} (h : ZIH l y wsy rm P D T w w1 as rv mc ms) (hp : ∀ u, List.Perm (w1 u) (w2 u)) : ZIH l y wsy rm P D T w w2 as rv mc ms := by
  intro sz
  refine Met_mono (h sz) (fun a s q => q) (fun a s o t _ hq => ?_) (fun q h => h)
  obtain ⟨⟨r, u, e1, e2, hP1, hK1, hD1⟩, hz, hk1⟩ := hq
  obtain ⟨d1, d2⟩ := va_D_nd.mp hD1
  refine ⟨⟨r, u, e1, e2, fun k q hk => ?_, hK1, va_D_nd.mpr ⟨((hp u).map Prod.fst).nodup_iff.mp d1, fun q hq => d2 q ((hp u).mem_iff.mpr hq)⟩⟩, hz, hk1⟩
  obtain ⟨i, hi⟩ := List.getElem?_of_mem ((hp u).mem_iff.mpr (List.mem_of_getElem? hk))
  exact hP1 i q hi
section BILLET
variable {l : Launch} {D : va_G} {T : Nat → ClassId} {ea mi : Nat} {sa : Nat → Nat} {om : Nat} {am : Nat → Nat}
variable {C : Nat} {ad : Nat → Nat} {J : List Nat} {N mst bst : Nat → Nat} {ρ σ : Nat → Nat → Int32} {f : Nat → Int64}

def Nb (N : Nat → Nat) : Nat → Nat := fun q => if q = 1 then N 1 + 1 else N q
def bB (N bst : Nat → Nat) (s : Nat) : Nat → Nat := fun i => if i = N 1 then s else bst i
theorem bB_n {s : Nat} : bB N bst s (N 1) = s := if_pos rfl
theorem bB_o {s i : Nat} (h : i ≠ N 1) : bB N bst s i = bst i := if_neg h
def rB (N : Nat → Nat) (ρ : Nat → Nat → Int32) (mo : Nat) (w : Int32) : Nat → Nat → Int32 := fun k => if k = 7 then (fun _ => ρ 7 0 + 1) else if k = 100 + 3 * N 1 then nwB mo w else if k = 101 + 3 * N 1 then fi0 (fun _ => 0) w 8 else if k = 102 + 3 * N 1 then (fun _ => 0) else ρ k
theorem rB_7 {mo : Nat} {w : Int32} : rB N ρ mo w 7 = fun _ => ρ 7 0 + 1 := if_pos rfl
theorem rB_b {mo : Nat} {w : Int32} : rB N ρ mo w (100 + 3 * N 1) = nwB mo w := by
  unfold rB
  rw [if_neg (by omega), if_pos rfl]
theorem rB_a {mo : Nat} {w : Int32} : rB N ρ mo w (101 + 3 * N 1) = fi0 (fun _ => 0) w 8 := by
  unfold rB
  rw [if_neg (by omega), if_neg (by omega), if_pos rfl]
theorem rB_q {mo : Nat} {w : Int32} : rB N ρ mo w (102 + 3 * N 1) = fun _ => 0 := by
  unfold rB
  rw [if_neg (by omega), if_neg (by omega), if_neg (by omega), if_pos rfl]
theorem rB_o {mo : Nat} {w : Int32} {k : Nat} (h1 : k ≠ 7) (h2 : k ≠ 100 + 3 * N 1) (h3 : k ≠ 101 + 3 * N 1) (h4 : k ≠ 102 + 3 * N 1) : rB N ρ mo w k = ρ k := by
  unfold rB
  rw [if_neg h1, if_neg h2, if_neg h3, if_neg h4]
def aB (ad : Nat → Nat) (N : Nat → Nat) (x y z t : Nat) : Nat → Nat := fun k => if k = 100 + 3 * N 1 then x else if k = 101 + 3 * N 1 then y else if k = 102 + 3 * N 1 then z else if k = 21 then t else ad k
section AB
variable {x y z t : Nat}
theorem aB_b : aB ad N x y z t (100 + 3 * N 1) = x := if_pos rfl
theorem aB_a : aB ad N x y z t (101 + 3 * N 1) = y := by
  unfold aB
  rw [if_neg (by omega), if_pos rfl]
theorem aB_q : aB ad N x y z t (102 + 3 * N 1) = z := by
  unfold aB
  rw [if_neg (by omega), if_neg (by omega), if_pos rfl]
theorem aB_21 : aB ad N x y z t 21 = t := by
  unfold aB
  rw [if_neg (by omega), if_neg (by omega), if_neg (by omega), if_pos rfl]
theorem aB_o {k : Nat} (h1 : k ≠ 100 + 3 * N 1) (h2 : k ≠ 101 + 3 * N 1) (h3 : k ≠ 102 + 3 * N 1) (h4 : k ≠ 21) : aB ad N x y z t k = ad k := by
  unfold aB
  rw [if_neg h1, if_neg h2, if_neg h3, if_neg h4]
theorem aB_s {k : Nat} (h1 : k ≠ 100 + 3 * N 1) (h2 : k ≠ 101 + 3 * N 1) (h3 : k ≠ 102 + 3 * N 1) : aB ad N x y z (ad 21) k = ad k := by
  by_cases e : k = 21
  · rw [e, aB_21]
  · exact aB_o h1 h2 h3 e
end AB
theorem Nb_liv {j : Nat} : liv (Nb N) j ↔ (j < 16 ∨ (j = 20 ∧ 0 < N 0) ∨ j = 21 ∨ (j = 22 ∧ 0 < N 2) ∨ (100 ≤ j ∧ j < 100 + 3 * (N 1 + 1)) ∨ (200 ≤ j ∧ j < 200 + 2 * N 2)) := by
  unfold liv
  rw [show Nb N 0 = N 0 from rfl, show Nb N 1 = N 1 + 1 from rfl, show Nb N 2 = N 2 from rfl]
  omega
theorem billet_inv {J' : List Nat} {mo : Nat} {w : Int32} {nw : Nat} (hmo : mo < N 0) (hw : w = nI nw) (w1 : 1 ≤ nw) (w2 : nw ≤ 200) (hI : Inv C J N mst bst ρ σ) (h4 : N 1 < 12) (hJ' : J'.Nodup) (hm' : ∀ j, j ∈ J' ↔ liv (Nb N) j) : Inv (C + 1) J' (Nb N) mst (bB N bst (mst mo)) (rB N ρ mo w) (upS (upS (upS (upS (upS (upS (upS (upS (upS (upS σ 5 (fun _ => nI (N 1 + 1))) 6 (upd (σ 6) (N 1) (nI mo))) 7 (FI (σ 7) (8 * N 1) w)) 9 (upd (σ 9) (N 1) 20)) 10 (upd (σ 10) (N 1) 20)) 11 (upd (σ 11) (N 1) 50)) 15 (upd (σ 15) (N 1) 240)) 16 (upd (σ 16) (N 1) (-1))) 19 (upd (σ 19) (N 1) (8 * w))) 31 (fun _ => 0)) := by
  obtain ⟨σ', hσ⟩ : ∃ q, q = upS (upS (upS (upS (upS (upS (upS (upS (upS (upS σ 5 (fun _ => nI (N 1 + 1))) 6 (upd (σ 6) (N 1) (nI mo))) 7 (FI (σ 7) (8 * N 1) w)) 9 (upd (σ 9) (N 1) 20)) 10 (upd (σ 10) (N 1) 20)) 11 (upd (σ 11) (N 1) 50)) 15 (upd (σ 15) (N 1) 240)) 16 (upd (σ 16) (N 1) (-1))) 19 (upd (σ 19) (N 1) (8 * w))) 31 (fun _ => 0) := ⟨_, rfl⟩
  have s5 : σ' 5 = fun _ => nI (N 1 + 1) := by rw [hσ]; rfl
  have s6 : σ' 6 = upd (σ 6) (N 1) (nI mo) := by rw [hσ]; rfl
  have s7 : σ' 7 = FI (σ 7) (8 * N 1) w := by rw [hσ]; rfl
  have s9 : σ' 9 = upd (σ 9) (N 1) 20 := by rw [hσ]; rfl
  have s10 : σ' 10 = upd (σ 10) (N 1) 20 := by rw [hσ]; rfl
  have s11 : σ' 11 = upd (σ 11) (N 1) 50 := by rw [hσ]; rfl
  have s15 : σ' 15 = upd (σ 15) (N 1) 240 := by rw [hσ]; rfl
  have s16 : σ' 16 = upd (σ 16) (N 1) (-1) := by rw [hσ]; rfl
  have s19 : σ' 19 = upd (σ 19) (N 1) (8 * w) := by rw [hσ]; rfl
  have hs : ∀ k, k < 29 → k ≠ 5 → k ≠ 6 → k ≠ 7 → k ≠ 9 → k ≠ 10 → k ≠ 11 → k ≠ 15 → k ≠ 16 → k ≠ 19 → σ' k = σ k := fun k h0 h5 h6 h7 h9 h10 h11 h15 h16 h19 => by
    rw [hσ]
    exact (upS_ne _ _ (show k ≠ 31 by omega)).trans ((upS_ne _ _ h19).trans ((upS_ne _ _ h16).trans ((upS_ne _ _ h15).trans ((upS_ne _ _ h11).trans ((upS_ne _ _ h10).trans ((upS_ne _ _ h9).trans ((upS_ne _ _ h7).trans ((upS_ne _ _ h6).trans (upS_ne _ _ h5)))))))))
  rw [← hσ]
  obtain ⟨h1, h2, h3, h4', h5, h6, h7, h8⟩ := hI
  obtain ⟨-, -, c3, c4, c5, c6, c7, c8⟩ := h1
  have hr : ∀ k, k < 100 → k ≠ 7 → rB N ρ mo w k = ρ k := fun k hk h => rB_o h (by omega) (by omega) (by omega)
  have t0 := hs 0 (by decide) (by decide) (by decide) (by decide) (by decide) (by decide) (by decide) (by decide) (by decide) (by decide)
  have t8 := hs 8 (by decide) (by decide) (by decide) (by decide) (by decide) (by decide) (by decide) (by decide) (by decide) (by decide)
  have t12 := hs 12 (by decide) (by decide) (by decide) (by decide) (by decide) (by decide) (by decide) (by decide) (by decide) (by decide)
  have t13 := hs 13 (by decide) (by decide) (by decide) (by decide) (by decide) (by decide) (by decide) (by decide) (by decide) (by decide)
  have t14 := hs 14 (by decide) (by decide) (by decide) (by decide) (by decide) (by decide) (by decide) (by decide) (by decide) (by decide)
  have t17 := hs 17 (by decide) (by decide) (by decide) (by decide) (by decide) (by decide) (by decide) (by decide) (by decide) (by decide)
  have t18 := hs 18 (by decide) (by decide) (by decide) (by decide) (by decide) (by decide) (by decide) (by decide) (by decide) (by decide)
  have t20 := hs 20 (by decide) (by decide) (by decide) (by decide) (by decide) (by decide) (by decide) (by decide) (by decide) (by decide)
  refine ⟨⟨hJ', hm', c3, h4, c5, ?_, ?_, ?_⟩, ?_, ?_, ?_, ?_, fun d hd => ?_, ?_, fun i hi => ?_⟩
  · rw [hs 3 (by decide) (by decide) (by decide) (by decide) (by decide) (by decide) (by decide) (by decide) (by decide) (by decide)]
    exact c6
  · rw [s5]
    rfl
  · rw [hs 21 (by decide) (by decide) (by decide) (by decide) (by decide) (by decide) (by decide) (by decide) (by decide) (by decide)]
    exact c8
  · unfold SIv at h2 ⊢
    rw [t0, hs 1 (by decide) (by decide) (by decide) (by decide) (by decide) (by decide) (by decide) (by decide) (by decide) (by decide), hs 2 (by decide) (by decide) (by decide) (by decide) (by decide) (by decide) (by decide) (by decide) (by decide) (by decide)]
    exact fun s hs9 => by rw [hr (2 + s) (by omega) (by omega)]; exact h2 s hs9
  · unfold MIv at h3 ⊢
    rw [hs 4 (by decide) (by decide) (by decide) (by decide) (by decide) (by decide) (by decide) (by decide) (by decide) (by decide)]
    exact h3
  · unfold LIv at h4' ⊢
    rw [hs 24 (by decide) (by decide) (by decide) (by decide) (by decide) (by decide) (by decide) (by decide) (by decide) (by decide), hs 25 (by decide) (by decide) (by decide) (by decide) (by decide) (by decide) (by decide) (by decide) (by decide) (by decide), hr 0 (by omega) (by omega), hr 9 (by omega) (by omega)]
    exact h4'
  · intro i q1 q2
    have q1' : N 1 + 1 ≤ i := q1
    rw [t12, t13, t14, t17, t18, t20, t8]
    exact h5 i (by omega) q2
  · have hd9 : d < N 2 := hd
    rw [rB_o (by omega) (by omega) (by omega) (by omega), rB_o (by omega) (by omega) (by omega) (by omega), hs 22 (by decide) (by decide) (by decide) (by decide) (by decide) (by decide) (by decide) (by decide) (by decide) (by decide), hs 23 (by decide) (by decide) (by decide) (by decide) (by decide) (by decide) (by decide) (by decide) (by decide) (by decide)]
    exact h6 d hd9
  · unfold JIv at h7 ⊢
    rw [hs 26 (by decide) (by decide) (by decide) (by decide) (by decide) (by decide) (by decide) (by decide) (by decide) (by decide), hs 27 (by decide) (by decide) (by decide) (by decide) (by decide) (by decide) (by decide) (by decide) (by decide) (by decide), hs 28 (by decide) (by decide) (by decide) (by decide) (by decide) (by decide) (by decide) (by decide) (by decide) (by decide), hr 14 (by omega) (by omega), hr 15 (by omega) (by omega)]
    exact h7
  · have hi9 : i < N 1 + 1 := hi
    by_cases e : i = N 1
    · subst e
      obtain ⟨z12, z13, z14, z17, z18, z20, z8⟩ := h5 (N 1) (Nat.le_refl _) h4
      rw [rB_b, rB_a, rB_q, bB_n]
      unfold BIv
      rw [s6, s7, s9, s10, s11, s15, s16, s19, t8, t12, t13, t14, t17, t18, t20, upd_same, upd_same, upd_same, upd_same, upd_same, upd_same, upd_same, z12, z13, z14, z17, z18, z20]
      refine ⟨⟨mo, hmo, rfl, rfl, rfl⟩, ⟨?_, rfl⟩, ⟨rfl, 20, by decide, by decide, rfl⟩, ⟨rfl, 20, by decide, by decide, rfl⟩, rfl, ⟨rfl, 50, by decide, rfl⟩, ⟨rfl, 0, Nat.zero_le _, rfl⟩, ⟨rfl, Or.inl rfl⟩, ⟨240, by decide, rfl, rfl⟩, Or.inl ⟨rfl, rfl, rfl, z8⟩, Or.inl ⟨rfl, rfl⟩, fun j hj => ?_⟩
      · show w * 8 = 8 * w
        exact Int32.mul_comm w 8
      · rw [fi0_at _ _ 8 j hj, FI_at _ hj, hw]
        exact ⟨rfl, nw, w1, by omega, rfl⟩
    · rw [rB_o (by omega) (by omega) (by omega) (by omega), rB_o (by omega) (by omega) (by omega) (by omega), rB_o (by omega) (by omega) (by omega) (by omega), bB_o e]
      refine BIv_N (Nat.le_refl _) (fun _ _ => rfl) (Nat.le_refl _) (BIv_sig (BIv_le (Nat.le_succ C) (h8 i (by omega))) (fun k hk => ?_) (fun k j hk hj => ?_))
      · by_cases a6 : k = 6
        · rw [a6, s6, upd_ne _ _ e]
        by_cases a9 : k = 9
        · rw [a9, s9, upd_ne _ _ e]
        by_cases a10 : k = 10
        · rw [a10, s10, upd_ne _ _ e]
        by_cases a11 : k = 11
        · rw [a11, s11, upd_ne _ _ e]
        by_cases a15 : k = 15
        · rw [a15, s15, upd_ne _ _ e]
        by_cases a16 : k = 16
        · rw [a16, s16, upd_ne _ _ e]
        by_cases a19 : k = 19
        · rw [a19, s19, upd_ne _ _ e]
        rw [hs k (by omega) (by omega) a6 (by omega) a9 a10 a11 a15 a16 a19]
      · by_cases a7 : k = 7
        · rw [a7, s7, FI_o _ (by omega)]
        · have a8 : k = 8 := by omega
          rw [a8, t8]
end BILLET
