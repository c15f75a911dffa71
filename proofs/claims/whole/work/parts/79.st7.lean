/-! ===== steps: plans, patterns ===== -/
theorem ins_out {f : Nat → Int32} {w : Int32} : ∀ (n : Nat) (f : Nat → Int32) (j : Nat), n < j → ins f w n j = f j
  | 0, f, j, h => upd_ne _ _ (by omega)
  | n + 1, f, j, h => by
    rw [ins]
    split
    · rw [ins_out n _ j (by omega) (f := f)]
      exact upd_ne _ _ (by omega)
    · exact upd_ne _ _ (by omega)
theorem ins_eq {w : Int32} : ∀ (n : Nat) (f g : Nat → Int32), (∀ j, j < n → f j = g j) → ∀ j, j ≤ n → ins f w n j = ins g w n j
  | 0, f, g, _, j, hj => by
    have e : j = 0 := by omega
    subst e
    exact (upd_same _ _ _).trans (upd_same _ _ _).symm
  | n + 1, f, g, h, j, hj => by
    rw [ins, ins, h n (by omega)]
    split
    · by_cases e : j = n + 1
      · subst e
        rw [ins_out n _ (n + 1) (by omega) (f := f), ins_out n _ (n + 1) (by omega) (f := f), upd_same, upd_same]
      · exact ins_eq n _ _ (fun j hj => by rw [upd_ne _ _ (by omega), upd_ne _ _ (by omega)]; exact h j (by omega)) j (by omega)
    · by_cases e : j = n + 1
      · subst e
        rw [upd_same, upd_same]
      · rw [upd_ne _ _ e, upd_ne _ _ e]
        exact h j (by omega)
theorem ins_all {P : Int32 → Prop} {w : Int32} (hw : P w) : ∀ (n : Nat) (f : Nat → Int32), (∀ j, j < n → P (f j)) → ∀ j, j ≤ n → P (ins f w n j)
  | 0, f, _, j, hj => by
    have e : j = 0 := by omega
    subst e
    rw [ins, upd_same]
    exact hw
  | n + 1, f, h, j, hj => by
    rw [ins]
    split
    · by_cases e : j = n + 1
      · subst e
        rw [ins_out n _ (n + 1) (by omega) (f := f), upd_same]
        exact h n (by omega)
      · exact ins_all hw n _ (fun j hj => by rw [upd_ne _ _ (by omega)]; exact h j (by omega)) j (by omega)
    · by_cases e : j = n + 1
      · subst e
        rw [upd_same]
        exact hw
      · rw [upd_ne _ _ e]
        exact h j (by omega)
theorem ins_sort {w : Int32} : ∀ (n : Nat) (f : Nat → Int32), (∀ a b, a ≤ b → b < n → f a ≤ f b) → ∀ a b, a ≤ b → b ≤ n → ins f w n a ≤ ins f w n b
  | 0, f, _, a, b, h1, h2 => by
    have e : a = 0 := by omega
    have e2 : b = 0 := by omega
    subst e; subst e2
    exact Int32.le_refl _
  | n + 1, f, h, a, b, h1, h2 => by
    rw [ins]
    split
    · next hw =>
      by_cases e : b = n + 1
      · subst e
        by_cases e2 : a = n + 1
        · subst e2
          exact Int32.le_refl _
        · rw [ins_out n _ (n + 1) (by omega) (f := f), upd_same]
          exact ins_all (P := fun x => x ≤ f n) (Int32.le_of_lt hw) n _ (fun j hj => by rw [upd_ne _ _ (by omega)]; exact h j n (by omega) (by omega)) a (by omega)
      · exact ins_sort n _ (fun a b h3 h4 => by rw [upd_ne _ _ (by omega), upd_ne _ _ (by omega)]; exact h a b h3 (by omega)) a b h1 (by omega)
    · next hw =>
      by_cases e : b = n + 1
      · subst e
        by_cases e2 : a = n + 1
        · subst e2
          exact Int32.le_refl _
        · rw [upd_same, upd_ne _ _ e2]
          exact Int32.le_trans (h a n (by omega) (by omega)) (Int32.not_lt.mp hw)
      · rw [upd_ne _ _ e, upd_ne _ _ (by omega)]
        exact h a b h1 (by omega)
theorem neg_tab : ∀ n, n < 1301 → 0 < n → ¬ (0 : Int32) ≤ 0 - nI n := by decide +kernel
theorem absd_btw {x y : Int32} (hx : nbd 200 1300 x) (hy : nbd 200 1300 y) : absd (x - y) = btw y x := by
  obtain ⟨a, a1, a2, rfl⟩ := hx
  obtain ⟨b, b1, b2, rfl⟩ := hy
  unfold absd btw
  by_cases h : b ≤ a
  · have hp : (0 : Int32) ≤ nI a - nI b := by
      rw [pk_sub h]
      exact Int32.not_lt.mp (fun q => nI_pos (by omega) q)
    rw [if_pos hp]
    by_cases e : b < a
    · rw [if_pos ((nI_ltI (by omega) (by omega)).mpr e)]
    · rw [if_neg (fun q => e ((nI_ltI (by omega) (by omega)).mp q)), show a = b by omega]
  · have hq : nI a - nI b = 0 - nI (b - a) := by rw [i_negsub, pk_sub (by omega)]
    rw [hq, if_neg (neg_tab (b - a) (by omega) (by omega)), if_neg (fun q => h (Nat.le_of_lt ((nI_ltI (by omega) (by omega)).mp q))), pk_sub (by omega), Int32.zero_sub, Int32.zero_sub, Int32.neg_neg]
section ST7
variable {l : Launch} {D : va_G} {T : Nat → ClassId} {ea mi : Nat} {sa : Nat → Nat} {om : Nat} {am : Nat → Nat}
variable {C : Nat} {ad : Nat → Nat} {J : List Nat} {N mst bst : Nat → Nat} {ρ σ : Nat → Nat → Int32} {f : Nat → Int64}
variable {i : Nat}
theorem Inv_J {C' : Nat} (hC : C ≤ C') {N' : Nat → Nat} {ρ' σ' : Nat → Nat → Int32} (hI : Inv C J N mst bst ρ σ) (hN : ∀ k, k < 4 → N' k = N k) (hr : ∀ j, j < 11 ∨ 15 < j → ρ' j = ρ j) (hs : ∀ k, k < 29 → k ≠ 26 → k ≠ 27 → k ≠ 28 → σ' k = σ k) (hL : JIv N' ρ' σ') : Inv C' J N' mst bst ρ' σ' := by
  obtain ⟨h1, h2, h3, h4, h5, h6, h7, h8⟩ := hI
  have hn := h1.2.2.2.1
  refine ⟨?_, ?_, ?_, ?_, ?_, ?_, hL, fun i hi => ?_⟩
  · unfold CIv liv at h1 ⊢
    rw [hs 3 (by decide) (by decide) (by decide) (by decide), hs 5 (by decide) (by decide) (by decide) (by decide), hs 21 (by decide) (by decide) (by decide) (by decide), hN 0 (by decide), hN 1 (by decide), hN 2 (by decide)]
    exact h1
  · unfold SIv at h2 ⊢
    rw [hs 0 (by decide) (by decide) (by decide) (by decide), hs 1 (by decide) (by decide) (by decide) (by decide), hs 2 (by decide) (by decide) (by decide) (by decide)]
    exact fun s hs9 => by rw [hr (2 + s) (by omega)]; exact h2 s hs9
  · unfold MIv at h3 ⊢
    rw [hs 4 (by decide) (by decide) (by decide) (by decide), hN 0 (by decide)]
    exact h3
  · unfold LIv at h4 ⊢
    rw [hs 24 (by decide) (by decide) (by decide) (by decide), hs 25 (by decide) (by decide) (by decide) (by decide), hN 3 (by decide), hr 0 (by omega), hr 9 (by omega)]
    exact h4
  · unfold ZIv at h5 ⊢
    rw [hs 12 (by decide) (by decide) (by decide) (by decide), hs 13 (by decide) (by decide) (by decide) (by decide), hs 14 (by decide) (by decide) (by decide) (by decide), hs 17 (by decide) (by decide) (by decide) (by decide), hs 18 (by decide) (by decide) (by decide) (by decide), hs 20 (by decide) (by decide) (by decide) (by decide), hs 8 (by decide) (by decide) (by decide) (by decide), hN 1 (by decide)]
    exact h5
  · unfold DIv at h6 ⊢
    rw [hs 22 (by decide) (by decide) (by decide) (by decide), hs 23 (by decide) (by decide) (by decide) (by decide), hN 2 (by decide)]
    exact fun d hd => by rw [hr (200 + 2 * d) (by omega), hr (201 + 2 * d) (by omega)]; exact h6 d hd
  · rw [hN 1 (by decide)] at hi
    rw [hr (100 + 3 * i) (by omega), hr (101 + 3 * i) (by omega), hr (102 + 3 * i) (by omega)]
    have hb := BIv_sig (BIv_le hC (h8 i hi)) (σ' := σ') (fun k hk => by rw [hs k (by omega) (by omega) (by omega) (by omega)]) (fun k j hk hj => by rw [hs k (by omega) (by omega) (by omega) (by omega)])
    unfold BIv at hb ⊢
    rw [hN 0 (by decide), hN 3 (by decide)]
    exact hb
theorem step_uN {cy : MethodName} {cws : List Cond} {nL : Nat} {las : List Value} {my : MethodName} {mws : List Cond} {mrm : Room} {mas : List Value} {cv : Int32 → Int64} (hI : Inv C J N mst bst ρ σ) {js : List Nat} (hjs : js.Nodup) (hl : ∀ j ∈ js, liv N j) {rm : Room} {k rv : Int32} {mc ms : Nat} {f' : Nat → Int64} {N' : Nat → Nat} {ρ' : Nat → Nat → Int32} {S2 : Type} {σ' : S2 → Nat → Nat → Int32}
    (h : ZIH l cy cws rm (zX ea mi sa) D T (S := Unit) (ouW (ad 16) T f :: iw js ad (hG ad T ea f N mst bst ρ)) (fun _ => ouW (ad 16) T f' :: iw js ad (hG ad T ea f' N mst bst ρ')) las k mc ms) (hrm : rm.cells = mc ∧ rm.slots = ms ∧ rm.frames + 1 ≤ 11 ∧ 8 + (nL + 11) + rm.locals ≤ 404) (hmc : mc ≤ 5 ∧ ms ≤ 70)
    (hr : ∀ j, j ∉ js → ρ' j = ρ j) (hm : ZM l my mws mrm D T (S := S2) (mW om am T σ) (fun u => mW om am T (σ' u)) mas rv) (h31 : ∀ u2, σ' u2 31 0 = k) (hk : k = 0 → f' (0 : Int32).toNatClampNeg = cv rv) (hGN : hG ad T ea f' N' mst bst ρ' = hG ad T ea f' N mst bst ρ') (hI' : ∀ u2, Inv (C + 1) J N' mst bst ρ' (σ' u2)) :
    StepR l D T ea mi sa cy cws nL las my mws mrm mas cv om am C ad J N mst bst ρ σ f := by
  refine ⟨Unit, S2, fun _ => iw J ad (hG ad T ea f' N mst bst ρ'), k, rv, σ', f', rm, mc, ms, fr_wk hI hjs hl h hr, hrm, hmc, fun _ j hj => ?_, fun _ => ?_, hm, h31, hk, fun _ u2 => ⟨ad, J, N', mst, bst, ρ', rfl, rfl, ⟨[], by rw [hGN, List.append_nil]⟩, hI' u2⟩⟩
  · unfold Wk iw
    rw [List.map_cons, List.map_cons, List.map_map, List.map_map]
    rfl
  · unfold Wk iw
    rw [List.length_cons, List.length_cons, List.length_map, List.length_map]
    exact Nat.le_refl _
abbrev P3 (ad : Nat → Nat) (T : Nat → ClassId) (ρ : Nat → Nat → Int32) : va_W := [(ad 0, .inr (6, hsF ad (ρ 0 0))), (ad 14, .inr (4, [.ref (ad 15), .int (ρ 14 0), .int (ρ 14 1)])), (ad 15, .inl (T 0, 12, .inl (ρ 15)))]
theorem p3_iw : iw [0, 14, 15] ad (hG ad T ea f N mst bst ρ) = P3 ad T ρ := rfl
theorem liP : ∀ j ∈ [0, 14, 15], liv N j := by
  intro j hj
  simp only [List.mem_cons, List.not_mem_nil, or_false] at hj
  unfold liv
  omega
def N4 (N : Nat → Nat) (x : Nat) : Nat → Nat := fun k => if k = 4 then x else N k
theorem hG_N4 {x : Nat} : hG ad T ea f (N4 N x) mst bst ρ = hG ad T ea f N mst bst ρ := rfl
theorem st_job (hfl : l.stackTraces = false) (_hC : C ≤ 600) (hI : Inv C J N mst bst ρ σ) (x : Int32) : StepR l D T ea mi sa yL_job wsL_job 4 [.ref (ad 0), .int x, .ref (ad 16)] yX6_job wsX6_job (zrm 1 23) [.ref om, .int x] (fun r => r.toInt64) om am C ad J N mst bst ρ σ f := by
  obtain ⟨j1, j2, j3, ⟨j4, j5⟩, j6, j7⟩ := hI.2.2.2.2.2.2.1
  have bad : ∀ k : Int32, k ≠ 0 → gth (bin x 200 1300) (if σ 26 0 < 12 then 1 else 0) 1 = k → ZI l yX6_job wsX6_job (zrm 1 23) D T (mW om am T σ) (mW om am T (upS σ 31 (fun _ => k))) [.ref om, .int x] 0 0 0 := by
    intro k hk hg
    have hm := cm_job_bad l D T om am σ x (by rw [hg]; exact hk)
    rw [hg] at hm
    exact hm
  rcases bin_01 x 200 1300 with hx | hx
  · exact step_bad (js := [0, 14, 15]) hI (by decide) liP (lk_job_1 l D T ea mi sa _ _ f x (ch_job_a l hfl D T ea mi sa _ ad _ (ρ 15) (ρ 14 0) (ρ 14 1) x (bin0.mp hx)) ⟨rfl, rfl⟩) ⟨rfl, rfl, by decide, by decide⟩ (by decide) (bad 1 (by decide) (by rw [hx]; rfl))
  · obtain ⟨x1, x2⟩ := bin_k1 hx
    by_cases hj : N 4 < 12
    · have hm := cm_job_ok l D T om am σ (N 4) x hj j2 hx
      have hw := lk_job l D T ea mi sa (ad 0) (ad 16) f x (zI_H (ch_job l D T (ad 0) ad (ρ 0 0) (ρ 15) (ρ 14 0) (ρ 14 1) x x1 x2 (N 4) hj j3)) ⟨rfl, rfl⟩ (fun _ _ _ => rfl) (fun _ => Nat.le_refl _)
      refine step_uN (N' := N4 N (N 4 + 1)) (ρ' := upR (upR ρ 14 (upd (ρ 14) 0 (nI (N 4 + 1)))) 15 (ins (ρ 15) x (N 4))) (js := [0, 14, 15]) (σ' := fun _ : Unit => _) hI (by decide) liP hw ⟨rfl, rfl, by decide, by decide⟩ ⟨by decide, by decide⟩ (fun j hj => ?_) (zI_M hm) (fun _ => rfl) (fun _ => vpL _ _) rfl (fun _ => ?_)
      · simp only [List.mem_cons, List.not_mem_nil, or_false, not_or] at hj
        rw [upR_ne _ _ hj.2.2, upR_ne _ _ hj.2.1]
      · refine Inv_J (Nat.le_succ C) hI (fun k hk => if_neg (by omega)) (fun j hj => by rw [upR_ne _ _ (by omega), upR_ne _ _ (by omega)]) (fun k h1 h2 h3 h4 => (upS_ne _ _ (show k ≠ 31 by omega)).trans ((upS_ne _ _ h3).trans (upS_ne _ _ h2))) ?_
        obtain ⟨nx, nx1, nx2, nx3⟩ := bin_nat (lo := 200) (hi := 1300) (by decide) (by decide) hx
        have wx : nbd 200 1300 x := ⟨nx, nx1, nx2, nx3⟩
        refine ⟨?_, rfl, rfl, ⟨j4, j5⟩, fun k hk => ?_, fun a b h1 h2 => ?_⟩
        · show N 4 + 1 ≤ 12
          omega
        · have hk : k < N 4 + 1 := hk
          exact ⟨ins_eq (N 4) (ρ 15) (σ 27) (fun j hj => (j6 j hj).1) k (by omega), ins_all (P := nbd 200 1300) wx (N 4) (σ 27) (fun j hj => (j6 j hj).2) k (by omega)⟩
        · have h2 : b < N 4 + 1 := h2
          exact ins_sort (N 4) (σ 27) j7 a b h1 (by omega)
    · exact step_bad (js := [0, 14, 15]) hI (by decide) liP (lk_job_2 l D T ea mi sa _ _ f x (ch_job_w l hfl D T ea mi sa _ ad _ (ρ 15) (ρ 14 0) (ρ 14 1) x x1 x2 (N 4) ⟨by omega, by omega⟩ j3) ⟨rfl, rfl⟩) ⟨rfl, rfl, by decide, by decide⟩ (by decide) (bad 2 (by decide) (by rw [hx, j2, if_neg (show ¬ nI (N 4) < 12 from fun q => hj ((nI_ltI (a := N 4) (b := 12) (by omega) (by decide)).mp q))]; rfl))
theorem pl_eq (hJ : JIv N ρ σ) (h0 : 0 < N 4) (q : Nat) (hq : q < N 4) : plA (ρ 15) (N 4) (ρ 14 1) q = if (if btw (σ 28 0) (σ 27 (N 4 - 1)) < btw (σ 28 0) (σ 27 0) then (0 : Int32) else 1) = 0 then σ 27 (N 4 - 1 - q) else σ 27 q := by
  obtain ⟨j1, j2, j3, ⟨j4, j5⟩, j6, j7⟩ := hJ
  unfold plA plF
  rw [(j6 (N 4 - 1) (by omega)).1, (j6 0 h0).1, j4, absd_btw (j6 (N 4 - 1) (by omega)).2 j5, absd_btw (j6 0 h0).2 j5, (j6 q hq).1, (j6 (N 4 - 1 - q) (by omega)).1]
  by_cases h : btw (σ 28 0) (σ 27 (N 4 - 1)) < btw (σ 28 0) (σ 27 0)
  · rw [if_pos h, if_pos h, if_neg (by decide), if_pos rfl]
  · rw [if_neg h, if_neg h, if_pos rfl, if_neg (by decide)]
theorem st_planned (hfl : l.stackTraces = false) (_hC : C ≤ 600) (hI : Inv C J N mst bst ρ σ) (x : Int32) : StepR l D T ea mi sa yL_planned wsL_planned 4 [.ref (ad 0), .int x, .ref (ad 16)] yX6_planned wsX6_planned (zrm 3 62) [.ref om, .int x] (fun r => r.toInt64) om am C ad J N mst bst ρ σ f := by
  have hJ := hI.2.2.2.2.2.2.1
  obtain ⟨j1, j2, j3, ⟨j4, j5⟩, j6, j7⟩ := id hJ
  by_cases h0 : x < 0
  · have hg : gth (if x < 0 then 0 else 1) 1 1 = 1 := by rw [if_pos h0]; rfl
    have hm := cm_planned_bad l D T om am σ x (by rw [hg]; decide)
    rw [hg] at hm
    exact step_bad (js := [0]) hI (by decide) (fun j hj => by simp only [List.mem_cons, List.not_mem_nil, or_false] at hj; unfold liv; omega) (lk_planned_1 l D T ea mi sa _ _ f x (ch_planned_a l hfl D T ea mi sa _ ad _ x h0) ⟨rfl, rfl⟩) ⟨rfl, rfl, by decide, by decide⟩ (by decide) hm
  · obtain ⟨q, hq, rfl⟩ := zI_of h0
    have rd : ∀ (rv : Int32), ZI l yX6_planned wsX6_planned (zrm 3 62) D T (mW om am T σ) (mW om am T (upS σ 31 (fun _ => 0))) [.ref om, .int (nI q)] rv 0 0 → ZI l yX5_planned wsX5_planned (zrm 4 83) D T (P3 ad T ρ) (P3 ad T ρ) [.ref (ad 0), .int (nI q)] rv 0 0 → StepR l D T ea mi sa yL_planned wsL_planned 4 [.ref (ad 0), .int (nI q), .ref (ad 16)] yX6_planned wsX6_planned (zrm 3 62) [.ref om, .int (nI q)] (fun r => r.toInt64) om am C ad J N mst bst ρ σ f := fun rv hm hc =>
      step_u (ρ' := ρ) (js := [0, 14, 15]) (σ' := fun _ : Unit => upS σ 31 (fun _ => 0)) hI (by decide) liP (lk_planned l D T ea mi sa (ad 0) (ad 16) f (nI q) (zI_H hc) ⟨rfl, rfl⟩ (fun _ _ _ => rfl) (fun _ => Nat.le_refl _)) ⟨rfl, rfl, by decide, by decide⟩ ⟨by decide, by decide⟩ (fun _ _ => rfl) (zI_M hm) (fun _ => rfl) (fun _ => vpL _ _) (fun _ => Inv_read (Nat.le_succ C) hI (fun j hj => upS_ne σ _ (show j ≠ 31 by omega)))
    by_cases hx : q < N 4
    · have hm := cm_planned_ok l D T om am σ (N 4) q j1 j2 hx
      rw [← pl_eq hJ (by omega) q hx] at hm
      exact rd _ hm (ch_planned l D T (ad 0) ad (ρ 0 0) (ρ 15) (ρ 14 0) (ρ 14 1) (N 4) j1 j3 q (by omega) hx)
    · exact rd _ (cm_planned_ok0 l D T om am σ (N 4) q j1 j2 (by omega) hq) (ch_planned_n l D T (ad 0) ad (ρ 0 0) (ρ 15) (ρ 14 0) (ρ 14 1) (N 4) j1 j3 q (by omega) hq)
end ST7
