/-! ===== births: more cells than before ===== -/
theorem liF_cg {ad ad' ix ix' : Nat → Nat} {g : Nat} (h : ∀ i, i < g → ad' (ix' i) = ad (ix i)) : liF ad' ix' g = liF ad ix g := by
  funext i
  unfold liF
  by_cases c : i < g
  · rw [if_pos c, if_pos c, h i c]
  · rw [if_neg c, if_neg c]
theorem liF_up {ad ad' ix ix' : Nat → Nat} {g a : Nat} (h : ∀ i, i < g → ad' (ix' i) = ad (ix i)) (ha : ad' (ix' g) = a) : va_up (liF ad ix g) g (some a) = liF ad' ix' (g + 1) := by
  funext i
  by_cases c : i = g
  · subst c
    rw [va_up_self, liF_at (Nat.lt_succ_self i), ha]
  · rw [va_up_ne _ _ c]
    unfold liF
    by_cases c2 : i < g
    · rw [if_pos c2, if_pos (by omega), h i c2]
    · rw [if_neg c2, if_neg (by omega)]
theorem liF_0 {ad' ix' : Nat → Nat} {a : Nat} (ha : ad' (ix' 0) = a) : va_up (fun _ => none) 0 (some a) = liF ad' ix' 1 := by
  have e : (fun _ => none : Nat → Option Nat) = liF ad' ix' 0 := by
    funext i
    exact (if_neg (Nat.not_lt_zero i)).symm
  rw [e]
  exact liF_up (fun i h => absurd h (Nat.not_lt_zero i)) ha
theorem cap_succ {g : Nat} (h : g < cap g) : cap (g + 1) = cap g := by
  unfold cap at h ⊢
  split at h
  · rw [if_pos (by omega), if_pos (by omega)]
  · split at h
    · rw [if_neg (by omega), if_pos (by omega), if_neg (by omega), if_pos (by omega)]
    · rw [if_neg (by omega), if_neg (by omega), if_neg (by omega), if_neg (by omega)]
section BIRTH
variable {l : Launch} {D : va_G} {T : Nat → ClassId} {ea mi : Nat} {sa : Nat → Nat} {om : Nat} {am : Nat → Nat}
variable {C : Nat} {ad : Nat → Nat} {J : List Nat} {N mst bst : Nat → Nat} {ρ σ : Nat → Nat → Int32} {f : Nat → Int64}
variable {ad' N' mst' bst' : Nat → Nat} {ρ' : Nat → Nat → Int32} {f' : Nat → Int64}
theorem hG_new {j : Nat} (hl : liv N j) (ha : ∀ k, k < 16 → ad' k = ad k) (ha1 : ∀ k, 100 ≤ k → k < 100 + 3 * N 1 → ad' k = ad k) (ha2 : ∀ k, 200 ≤ k → k < 200 + 2 * N 2 → ad' k = ad k) (hb : ∀ i, i < N 1 → bst' i = bst i ∧ bst i < 4) (hn1 : N 1 ≤ 12) (hn2 : N 2 ≤ 4) (hρ : ρ' j = ρ j)
    (h6 : j = 6 ∨ j = 20 → N' 0 = N 0 ∧ ad' 20 = ad 20 ∧ ∀ i, i < N 0 → mst' i = mst i ∧ mst i < 4) (h7 : j = 7 ∨ j = 21 → N' 1 = N 1 ∧ ad' 21 = ad 21) (h8 : j = 8 ∨ j = 22 → N' 2 = N 2 ∧ ad' 22 = ad 22) : hG ad' T ea f' N' mst' bst' ρ' j = hG ad T ea f N mst bst ρ j := by
  unfold liv at hl
  rcases hl with h | ⟨rfl, h⟩ | ⟨rfl, h⟩ | ⟨rfl, h⟩ | ⟨h1, h2⟩ | ⟨h1, h2⟩
  · have e : j = 0 ∨ j = 1 ∨ j = 2 ∨ j = 3 ∨ j = 4 ∨ j = 5 ∨ j = 6 ∨ j = 7 ∨ j = 8 ∨ j = 9 ∨ j = 10 ∨ j = 11 ∨ j = 12 ∨ j = 13 ∨ j = 14 ∨ j = 15 := by omega
    rcases e with rfl | rfl | rfl | rfl | rfl | rfl | rfl | rfl | rfl | rfl | rfl | rfl | rfl | rfl | rfl | rfl
    · show (Sum.inr (6, hsF ad' (ρ' 0 0)) : va_E) = Sum.inr (6, hsF ad (ρ 0 0))
      unfold hsF
      rw [hρ, ha 1 (by decide), ha 6 (by decide), ha 7 (by decide), ha 8 (by decide), ha 9 (by decide), ha 10 (by decide), ha 14 (by decide)]
    · show (Sum.inl (T 4, 4, qa (stf ad')) : va_E) = Sum.inl (T 4, 4, qa (stf ad))
      unfold stf
      rw [ha 2 (by decide), ha 3 (by decide), ha 4 (by decide), ha 5 (by decide)]
    · unfold hG; rw [hρ]; rfl
    · unfold hG; rw [hρ]; rfl
    · unfold hG; rw [hρ]; rfl
    · unfold hG; rw [hρ]; rfl
    · obtain ⟨q1, q2, -⟩ := h6 (Or.inl rfl)
      show (Sum.inr (0, [Value.int (ρ' 6 0), Value.ref (if N' 0 = 0 then ea else ad' 20), Value.int (nI (N' 0))]) : va_E) = Sum.inr (0, [Value.int (ρ 6 0), Value.ref (if N 0 = 0 then ea else ad 20), Value.int (nI (N 0))])
      rw [hρ, q1, q2]
    · obtain ⟨q1, q2⟩ := h7 (Or.inl rfl)
      show (Sum.inr (0, [Value.int (ρ' 7 0), Value.ref (if N' 1 = 0 then ea else ad' 21), Value.int (nI (N' 1))]) : va_E) = Sum.inr (0, [Value.int (ρ 7 0), Value.ref (if N 1 = 0 then ea else ad 21), Value.int (nI (N 1))])
      rw [hρ, q1, q2]
    · obtain ⟨q1, q2⟩ := h8 (Or.inl rfl)
      show (Sum.inr (0, [Value.int (ρ' 8 0), Value.ref (if N' 2 = 0 then ea else ad' 22), Value.int (nI (N' 2))]) : va_E) = Sum.inr (0, [Value.int (ρ 8 0), Value.ref (if N 2 = 0 then ea else ad 22), Value.int (nI (N 2))])
      rw [hρ, q1, q2]
    · unfold hG; rw [hρ]; rfl
    · show (Sum.inr (3, [Value.ref (ad' 11), Value.ref (ad' 12), Value.ref (ad' 13)]) : va_E) = Sum.inr (3, [Value.ref (ad 11), Value.ref (ad 12), Value.ref (ad 13)])
      rw [ha 11 (by decide), ha 12 (by decide), ha 13 (by decide)]
    · unfold hG; rw [hρ]; rfl
    · unfold hG; rw [hρ]; rfl
    · unfold hG; rw [hρ]; rfl
    · show (Sum.inr (4, [Value.ref (ad' 15), Value.int (ρ' 14 0), Value.int (ρ' 14 1)]) : va_E) = Sum.inr (4, [Value.ref (ad 15), Value.int (ρ 14 0), Value.int (ρ 14 1)])
      rw [hρ, ha 15 (by decide)]
    · unfold hG; rw [hρ]; rfl
  · obtain ⟨q1, q2, q3⟩ := h6 (Or.inr rfl)
    show (Sum.inl (T 3, cap (N' 0), qa (liF ad' (fun i => 2 + mst' i) (N' 0))) : va_E) = Sum.inl (T 3, cap (N 0), qa (liF ad (fun i => 2 + mst i) (N 0)))
    rw [q1, liF_cg (ad := ad) (ix := fun i => 2 + mst i) (fun i hi => by rw [(q3 i hi).1]; exact ha _ (by have := (q3 i hi).2; omega))]
  · obtain ⟨q1, q2⟩ := h7 (Or.inr rfl)
    show (Sum.inl (T 3, cap (N' 1), qa (liF ad' (fun i => 100 + 3 * i) (N' 1))) : va_E) = Sum.inl (T 3, cap (N 1), qa (liF ad (fun i => 100 + 3 * i) (N 1)))
    rw [q1, liF_cg (ad := ad) (ix := fun i => 100 + 3 * i) (fun i hi => ha1 _ (by omega) (by omega))]
  · obtain ⟨q1, q2⟩ := h8 (Or.inr rfl)
    show (Sum.inl (T 3, cap (N' 2), qa (liF ad' (fun i => 200 + 2 * i) (N' 2))) : va_E) = Sum.inl (T 3, cap (N 2), qa (liF ad (fun i => 200 + 2 * i) (N 2)))
    rw [q1, liF_cg (ad := ad) (ix := fun i => 200 + 2 * i) (fun i hi => ha2 _ (by omega) (by omega))]
  · obtain ⟨i, hi⟩ : ∃ i, j = 100 + 3 * i ∨ j = 101 + 3 * i ∨ j = 102 + 3 * i := ⟨(j - 100) / 3, by omega⟩
    rcases hi with rfl | rfl | rfl
    · obtain ⟨q1, q2⟩ := hb i (by omega)
      rw [hG_b (by omega), hG_b (by omega), hρ, ha1 (101 + 3 * i) (by omega) (by omega), ha1 (102 + 3 * i) (by omega) (by omega), q1, ha (2 + bst i) (by omega)]
    · rw [hG_a (by omega), hG_a (by omega), hρ]
    · rw [hG_q (by omega), hG_q (by omega), hρ]
  · obtain ⟨d, hd⟩ : ∃ d, j = 200 + 2 * d ∨ j = 201 + 2 * d := ⟨(j - 200) / 2, by omega⟩
    rcases hd with rfl | rfl
    · rw [hG_d (by omega), hG_d (by omega), hρ, ha2 (201 + 2 * d) (by omega) (by omega)]
    · rw [hG_e (by omega), hG_e (by omega), hρ]
theorem perm_new {J K : List Nat} {ad ad' : Nat → Nat} {G : Nat → va_E} {tl : va_W} (hA : ∀ j ∈ J, ad' j = ad j) (htl : List.Perm tl (iw K ad' G)) : ∃ gb : va_W, List.Perm (iw J ad G ++ tl) (iw (J ++ K) ad' G ++ gb) := by
  refine ⟨[], ?_⟩
  have e : iw J ad G = iw J ad' G := by
    unfold iw
    exact List.map_congr_left (fun j hj => by rw [hA j hj])
  rw [List.append_nil, e]
  unfold iw at htl ⊢
  rw [List.map_append]
  exact List.Perm.append_left _ htl
theorem step_b {cy : MethodName} {cws : List Cond} {nL : Nat} {las : List Value} {my : MethodName} {mws : List Cond} {mrm : Room} {mas : List Value} {cv : Int32 → Int64} (hI : Inv C J N mst bst ρ σ) {js : List Nat} (hjs : js.Nodup) (hl : ∀ j ∈ js, liv N j) {S1 S2 : Type} {rm : Room} {k rv : Int32} {mc ms : Nat} {G' : S1 → Nat → va_E} {tl : S1 → va_W} {σ' : S2 → Nat → Nat → Int32}
    (h : ZIH l cy cws rm (zX ea mi sa) D T (S := S1) (ouW (ad 16) T f :: iw js ad (hG ad T ea f N mst bst ρ)) (fun u => ouW (ad 16) T f' :: (iw js ad (G' u) ++ tl u)) las k mc ms) (hrm : rm.cells = mc ∧ rm.slots = ms ∧ rm.frames + 1 ≤ 11 ∧ 8 + (nL + 11) + rm.locals ≤ 404) (hmc : mc ≤ 5 ∧ ms ≤ 70)
    (h16 : ∀ u, G' u 16 = .inl (T 2, 1, .inr (.inl f'))) (hag : ∀ u j, j ∈ J → j ∉ js → G' u j = hG ad T ea f N mst bst ρ j) (hm : ZM l my mws mrm D T (S := S2) (mW om am T σ) (fun u => mW om am T (σ' u)) mas rv) (h31 : ∀ u2, σ' u2 31 0 = k) (hk : k = 0 → f' (0 : Int32).toNatClampNeg = cv rv)
    (hfin : ∀ (u1 : S1) (u2 : S2), ∃ (ad' : Nat → Nat) (J' : List Nat) (N' mst' bst' : Nat → Nat) (ρ' : Nat → Nat → Int32), ad' 16 = ad 16 ∧ ad' 0 = ad 0 ∧ (∃ gb : va_W, List.Perm (iw J ad (G' u1) ++ tl u1) (iw J' ad' (hG ad' T ea f' N' mst' bst' ρ') ++ gb)) ∧ Inv (C + 1) J' N' mst' bst' ρ' (σ' u2)) :
    StepR l D T ea mi sa cy cws nL las my mws mrm mas cv om am C ad J N mst bst ρ σ f := by
  have hJ := hI.1.1
  have hmm := hI.1.2.1
  have h169 : ∀ {js : List Nat}, (∀ j ∈ js, liv N j) → 16 ∉ js := fun hl h => liv16 (hl 16 h)
  have hJl : ∀ j ∈ J, liv N j := fun j hj => (hmm j).mp hj
  have e1 : ∀ (K : List Nat) u, iw (16 :: K) ad (G' u) ++ tl u = ouW (ad 16) T f' :: (iw K ad (G' u) ++ tl u) := fun K u => by
    rw [iw_cons, h16 u]
    rfl
  have e2 : (fun u => ouW (ad 16) T f' :: (iw js ad (G' u) ++ tl u)) = fun u => iw (16 :: js) ad (G' u) ++ tl u := funext (fun u => (e1 js u).symm)
  rw [e2] at h
  have a := fr_iw (zX_k ea mi sa) (S := S1) (J := 16 :: J) (js := 16 :: js) (ad := ad) (G := hG ad T ea f N mst bst ρ) (wG := fun u => iw (16 :: js) ad (G' u) ++ tl u) h
    (List.nodup_cons.mpr ⟨h169 hJl, hJ⟩) (List.nodup_cons.mpr ⟨h169 hl, hjs⟩) (fun j hj => (List.mem_cons.mp hj).elim (fun e => List.mem_cons.mpr (Or.inl e)) (fun q => List.mem_cons.mpr (Or.inr ((hmm j).mpr (hl j q)))))
    G' tl (fun _ => rfl) (fun u j hj hn => hag u j ((List.mem_cons.mp hj).elim (fun e => absurd (List.mem_cons.mpr (Or.inl e)) hn) id) (fun q => hn (List.mem_cons_of_mem _ q)))
  have e3 : (fun u => iw (16 :: J) ad (G' u) ++ tl u) = fun u => ouW (ad 16) T f' :: (iw J ad (G' u) ++ tl u) := funext (fun u => e1 J u)
  rw [e3] at a
  refine ⟨S1, S2, fun u => iw J ad (G' u) ++ tl u, k, rv, σ', f', rm, mc, ms, a, hrm, hmc, fun u j hj => ?_, fun u => ?_, hm, h31, hk, hfin⟩
  · unfold Wk iw at hj ⊢
    rw [List.map_cons, List.map_cons, List.map_append, List.map_map, List.map_map]
    rw [List.length_cons, List.length_map] at hj
    cases j with
    | zero => rfl
    | succ j =>
      rw [List.getElem?_cons_succ, List.getElem?_cons_succ, List.getElem?_append_left (by rw [List.length_map]; omega)]
      rfl
  · unfold Wk iw
    rw [List.length_cons, List.length_cons, List.length_append, List.length_map, List.length_map]
    omega
end BIRTH
