/-! ===== births: melts, dies, billets ===== -/
/-- the class's cells as one thing -/
abbrev PS : Type := List Nat × (Nat → Nat) × (Nat → Nat) × (Nat → Nat) × (Nat → Nat) × (Nat → Nat → Int32)
abbrev PS.J (X : PS) : List Nat := X.1
abbrev PS.ad (X : PS) : Nat → Nat := X.2.1
abbrev PS.N (X : PS) : Nat → Nat := X.2.2.1
abbrev PS.mst (X : PS) : Nat → Nat := X.2.2.2.1
abbrev PS.bst (X : PS) : Nat → Nat := X.2.2.2.2.1
abbrev PS.ρ (X : PS) : Nat → Nat → Int32 := X.2.2.2.2.2
section BIRTH
variable {l : Launch} {D : va_G} {T : Nat → ClassId} {ea mi : Nat} {sa : Nat → Nat}
variable {C : Nat} {ad : Nat → Nat} {J : List Nat} {N mst bst : Nat → Nat} {ρ : Nat → Nat → Int32} {f : Nat → Int64} {a c : Nat → Int32}
variable {ad' N' mst' bst' : Nat → Nat} {ρ' : Nat → Nat → Int32} {f' : Nat → Int64}
theorem liF_cg {ad ad' ix ix' : Nat → Nat} {g : Nat} (h : ∀ i, i < g → ad' (ix' i) = ad (ix i)) : liF ad' ix' g = liF ad ix g := by
  funext i
  unfold liF
  by_cases c : i < g
  · rw [if_pos c, if_pos c, h i c]
  · rw [if_neg c, if_neg c]
theorem liF_up {ad ad' ix ix' : Nat → Nat} {g a : Nat} (h : ∀ i, i < g → ad' (ix' i) = ad (ix i)) (ha : ad' (ix' g) = a) : va_up (liF ad ix g) g (some a) = liF ad' ix' (g + 1) := by
  funext i
  by_cases c : i = g
  · subst c
    rw [va_up_self, liF_at (Nat.lt_succ_self i), ha]
  · rw [va_up_ne _ _ c]
    unfold liF
    by_cases c2 : i < g
    · rw [if_pos c2, if_pos (by omega), h i c2]
    · rw [if_neg c2, if_neg (by omega)]
theorem liF_0 {ad' ix' : Nat → Nat} {a : Nat} (ha : ad' (ix' 0) = a) : va_up (fun _ => none) 0 (some a) = liF ad' ix' 1 := by
  have e : (fun _ => none : Nat → Option Nat) = liF ad' ix' 0 := by
    funext i
    exact (if_neg (Nat.not_lt_zero i)).symm
  rw [e]
  exact liF_up (fun i h => absurd h (Nat.not_lt_zero i)) ha
theorem cap_succ {g : Nat} (h : g < cap g) : cap (g + 1) = cap g := by
  unfold cap at h ⊢
  split at h
  · rw [if_pos (by omega), if_pos (by omega)]
  · split at h
    · rw [if_neg (by omega), if_pos (by omega), if_neg (by omega), if_pos (by omega)]
    · rw [if_neg (by omega), if_neg (by omega), if_neg (by omega), if_neg (by omega)]
theorem hG_new {j : Nat} (hl : liv N j) (ha : ∀ k, k < 16 → ad' k = ad k) (ha1 : ∀ k, 100 ≤ k → k < 100 + 3 * N 1 → ad' k = ad k) (ha2 : ∀ k, 200 ≤ k → k < 200 + 2 * N 2 → ad' k = ad k) (hb : ∀ i, i < N 1 → bst' i = bst i ∧ bst i < 4) (hn1 : N 1 ≤ 12) (hn2 : N 2 ≤ 4) (hρ : ρ' j = ρ j)
    (h6 : j = 6 ∨ j = 20 → N' 0 = N 0 ∧ ad' 20 = ad 20 ∧ ∀ i, i < N 0 → mst' i = mst i ∧ mst i < 4) (h7 : j = 7 ∨ j = 21 → N' 1 = N 1 ∧ ad' 21 = ad 21) (h8 : j = 8 ∨ j = 22 → N' 2 = N 2 ∧ ad' 22 = ad 22) : hG ad' T ea f' N' mst' bst' ρ' j = hG ad T ea f N mst bst ρ j := by
  unfold liv at hl
  rcases hl with h | ⟨rfl, h⟩ | ⟨rfl, h⟩ | ⟨rfl, h⟩ | ⟨h1, h2⟩ | ⟨h1, h2⟩
  · have e : j = 0 ∨ j = 1 ∨ j = 2 ∨ j = 3 ∨ j = 4 ∨ j = 5 ∨ j = 6 ∨ j = 7 ∨ j = 8 ∨ j = 9 ∨ j = 10 ∨ j = 11 ∨ j = 12 ∨ j = 13 ∨ j = 14 ∨ j = 15 := by omega
    rcases e with rfl | rfl | rfl | rfl | rfl | rfl | rfl | rfl | rfl | rfl | rfl | rfl | rfl | rfl | rfl | rfl
    · show (Sum.inr (6, hsF ad' (ρ' 0 0)) : va_E) = Sum.inr (6, hsF ad (ρ 0 0))
      unfold hsF
      rw [hρ, ha 1 (by decide), ha 6 (by decide), ha 7 (by decide), ha 8 (by decide), ha 9 (by decide), ha 10 (by decide), ha 14 (by decide)]
    · show (Sum.inl (T 4, 4, qa (stf ad')) : va_E) = Sum.inl (T 4, 4, qa (stf ad))
      unfold stf
      rw [ha 2 (by decide), ha 3 (by decide), ha 4 (by decide), ha 5 (by decide)]
    · unfold hG; rw [hρ]; rfl
    · unfold hG; rw [hρ]; rfl
    · unfold hG; rw [hρ]; rfl
    · unfold hG; rw [hρ]; rfl
    · obtain ⟨q1, q2, -⟩ := h6 (Or.inl rfl)
      show (Sum.inr (0, [Value.int (ρ' 6 0), Value.ref (if N' 0 = 0 then ea else ad' 20), Value.int (nI (N' 0))]) : va_E) = Sum.inr (0, [Value.int (ρ 6 0), Value.ref (if N 0 = 0 then ea else ad 20), Value.int (nI (N 0))])
      rw [hρ, q1, q2]
    · obtain ⟨q1, q2⟩ := h7 (Or.inl rfl)
      show (Sum.inr (0, [Value.int (ρ' 7 0), Value.ref (if N' 1 = 0 then ea else ad' 21), Value.int (nI (N' 1))]) : va_E) = Sum.inr (0, [Value.int (ρ 7 0), Value.ref (if N 1 = 0 then ea else ad 21), Value.int (nI (N 1))])
      rw [hρ, q1, q2]
    · obtain ⟨q1, q2⟩ := h8 (Or.inl rfl)
      show (Sum.inr (0, [Value.int (ρ' 8 0), Value.ref (if N' 2 = 0 then ea else ad' 22), Value.int (nI (N' 2))]) : va_E) = Sum.inr (0, [Value.int (ρ 8 0), Value.ref (if N 2 = 0 then ea else ad 22), Value.int (nI (N 2))])
      rw [hρ, q1, q2]
    · unfold hG; rw [hρ]; rfl
    · show (Sum.inr (3, [Value.ref (ad' 11), Value.ref (ad' 12), Value.ref (ad' 13)]) : va_E) = Sum.inr (3, [Value.ref (ad 11), Value.ref (ad 12), Value.ref (ad 13)])
      rw [ha 11 (by decide), ha 12 (by decide), ha 13 (by decide)]
    · unfold hG; rw [hρ]; rfl
    · unfold hG; rw [hρ]; rfl
    · unfold hG; rw [hρ]; rfl
    · show (Sum.inr (4, [Value.ref (ad' 15), Value.int (ρ' 14 0), Value.int (ρ' 14 1)]) : va_E) = Sum.inr (4, [Value.ref (ad 15), Value.int (ρ 14 0), Value.int (ρ 14 1)])
      rw [hρ, ha 15 (by decide)]
    · unfold hG; rw [hρ]; rfl
  · obtain ⟨q1, q2, q3⟩ := h6 (Or.inr rfl)
    show (Sum.inl (T 3, cap (N' 0), qa (liF ad' (fun i => 2 + mst' i) (N' 0))) : va_E) = Sum.inl (T 3, cap (N 0), qa (liF ad (fun i => 2 + mst i) (N 0)))
    rw [q1, liF_cg (ad := ad) (ix := fun i => 2 + mst i) (fun i hi => by rw [(q3 i hi).1]; exact ha _ (by have := (q3 i hi).2; omega))]
  · obtain ⟨q1, q2⟩ := h7 (Or.inr rfl)
    show (Sum.inl (T 3, cap (N' 1), qa (liF ad' (fun i => 100 + 3 * i) (N' 1))) : va_E) = Sum.inl (T 3, cap (N 1), qa (liF ad (fun i => 100 + 3 * i) (N 1)))
    rw [q1, liF_cg (ad := ad) (ix := fun i => 100 + 3 * i) (fun i hi => ha1 _ (by omega) (by omega))]
  · obtain ⟨q1, q2⟩ := h8 (Or.inr rfl)
    show (Sum.inl (T 3, cap (N' 2), qa (liF ad' (fun i => 200 + 2 * i) (N' 2))) : va_E) = Sum.inl (T 3, cap (N 2), qa (liF ad (fun i => 200 + 2 * i) (N 2)))
    rw [q1, liF_cg (ad := ad) (ix := fun i => 200 + 2 * i) (fun i hi => ha2 _ (by omega) (by omega))]
  · obtain ⟨i, hi⟩ : ∃ i, j = 100 + 3 * i ∨ j = 101 + 3 * i ∨ j = 102 + 3 * i := ⟨(j - 100) / 3, by omega⟩
    rcases hi with rfl | rfl | rfl
    · obtain ⟨q1, q2⟩ := hb i (by omega)
      rw [hG_b (by omega), hG_b (by omega), hρ, ha1 (101 + 3 * i) (by omega) (by omega), ha1 (102 + 3 * i) (by omega) (by omega), q1, ha (2 + bst i) (by omega)]
    · rw [hG_a (by omega), hG_a (by omega), hρ]
    · rw [hG_q (by omega), hG_q (by omega), hρ]
  · obtain ⟨d, hd⟩ : ∃ d, j = 200 + 2 * d ∨ j = 201 + 2 * d := ⟨(j - 200) / 2, by omega⟩
    rcases hd with rfl | rfl
    · rw [hG_d (by omega), hG_d (by omega), hρ, ha2 (201 + 2 * d) (by omega) (by omega)]
    · rw [hG_e (by omega), hG_e (by omega), hρ]
theorem perm_new {J K : List Nat} {ad ad' : Nat → Nat} {G : Nat → va_E} {tl : va_W} (hA : ∀ j ∈ J, ad' j = ad j) (htl : List.Perm tl (iw K ad' G)) : ∃ gb : va_W, List.Perm (iw J ad G ++ tl) (iw (J ++ K) ad' G ++ gb) := by
  refine ⟨[], ?_⟩
  have e : iw J ad G = iw J ad' G := by
    unfold iw
    exact List.map_congr_left (fun j hj => by rw [hA j hj])
  rw [List.append_nil, e]
  unfold iw at htl ⊢
  rw [List.map_append]
  exact List.Perm.append_left _ htl
theorem fi0_at (f : Nat → Int32) (v : Int32) : ∀ n j, j < n → fi0 f v n j = v := by
  intro n
  induction n with
  | zero => intro j h; omega
  | succ n ih =>
    intro j h
    rw [fi0]
    by_cases e : j = n
    · rw [e, upd_same]
    · rw [upd_ne _ _ e]
      exact ih j (by omega)
def Nd (N : Nat → Nat) : Nat → Nat := fun q => if q = 2 then N 2 + 1 else N q
def rD (N : Nat → Nat) (ρ : Nat → Nat → Int32) : Nat → Nat → Int32 := fun k => if k = 8 then (fun _ => ρ 8 0 + 1) else if k = 200 + 2 * N 2 then (fun _ => 100) else if k = 201 + 2 * N 2 then fi0 (fun _ => 0) 10 8 else ρ k
theorem rD_8 : rD N ρ 8 = fun _ => ρ 8 0 + 1 := if_pos rfl
theorem rD_d : rD N ρ (200 + 2 * N 2) = fun _ => 100 := by
  unfold rD
  rw [if_neg (by omega), if_pos rfl]
theorem rD_e : rD N ρ (201 + 2 * N 2) = fi0 (fun _ => 0) 10 8 := by
  unfold rD
  rw [if_neg (by omega), if_neg (by omega), if_pos rfl]
theorem rD_o {k : Nat} (h1 : k ≠ 8) (h2 : k ≠ 200 + 2 * N 2) (h3 : k ≠ 201 + 2 * N 2) : rD N ρ k = ρ k := by
  unfold rD
  rw [if_neg h1, if_neg h2, if_neg h3]
def aD (ad : Nat → Nat) (N : Nat → Nat) (x y z : Nat) : Nat → Nat := fun k => if k = 200 + 2 * N 2 then x else if k = 201 + 2 * N 2 then y else if k = 22 then z else ad k
theorem aD_d {x y z : Nat} : aD ad N x y z (200 + 2 * N 2) = x := if_pos rfl
theorem aD_e {x y z : Nat} : aD ad N x y z (201 + 2 * N 2) = y := by
  unfold aD
  rw [if_neg (by omega), if_pos rfl]
theorem aD_22 {x y z : Nat} : aD ad N x y z 22 = z := by
  unfold aD
  rw [if_neg (by omega), if_neg (by omega), if_pos rfl]
theorem aD_o {x y z k : Nat} (h1 : k ≠ 200 + 2 * N 2) (h2 : k ≠ 201 + 2 * N 2) (h3 : k ≠ 22) : aD ad N x y z k = ad k := by
  unfold aD
  rw [if_neg h1, if_neg h2, if_neg h3]
theorem aD_22s {x y k : Nat} (h1 : k ≠ 200 + 2 * N 2) (h2 : k ≠ 201 + 2 * N 2) : aD ad N x y (ad 22) k = ad k := by
  by_cases e : k = 22
  · rw [e, aD_22]
  · exact aD_o h1 h2 e
theorem Nd_liv {j : Nat} : liv (Nd N) j ↔ (j < 16 ∨ (j = 20 ∧ 0 < N 0) ∨ (j = 21 ∧ 0 < N 1) ∨ j = 22 ∨ (100 ≤ j ∧ j < 100 + 3 * N 1) ∨ (200 ≤ j ∧ j < 200 + 2 * (N 2 + 1))) := by
  unfold liv
  rw [show Nd N 0 = N 0 from rfl, show Nd N 1 = N 1 from rfl, show Nd N 2 = N 2 + 1 from rfl]
  omega
theorem cpy_liF (ad ix : Nat → Nat) (g : Nat) : va_cpy (liF ad ix g) (fun _ => none) 0 0 g = liF ad ix g := by
  funext k
  unfold va_cpy
  by_cases c : k < g
  · rw [if_pos ⟨Nat.zero_le _, by omega⟩, Nat.zero_add, Nat.sub_zero]
  · rw [if_neg (by omega)]
    unfold liF
    rw [if_neg c]
theorem perm_swap {J K : List Nat} {ad ad' : Nat → Nat} {G G9 : Nat → va_E} {tl : va_W} {a : Nat} (hJ : J.Nodup) (ha : a ∈ J) (hA : ∀ j ∈ J, j ≠ a → ad' j = ad j ∧ G9 j = G j) (htl : List.Perm tl (iw K ad' G9 ++ [(ad' a, G9 a)])) : ∃ gb : va_W, List.Perm (iw J ad G ++ tl) (iw (J ++ K) ad' G9 ++ gb) := by
  refine ⟨[(ad a, G a)], ?_⟩
  have p0 : List.Perm J (a :: J.erase a) := List.perm_cons_erase ha
  have hne : ∀ j ∈ J.erase a, j ∈ J ∧ j ≠ a := fun j hj => ⟨List.mem_of_mem_erase hj, fun e => by subst e; exact absurd hj (hJ.not_mem_erase)⟩
  have e : iw (J.erase a) ad G = iw (J.erase a) ad' G9 := by
    unfold iw
    exact List.map_congr_left (fun j hj => by rw [(hA j (hne j hj).1 (hne j hj).2).1, (hA j (hne j hj).1 (hne j hj).2).2])
  have p1 : List.Perm (iw J ad G) ((ad a, G a) :: iw (J.erase a) ad' G9) := by
    rw [← e]
    exact p0.map _
  have p2 : List.Perm (iw (J ++ K) ad' G9) ((ad' a, G9 a) :: (iw (J.erase a) ad' G9 ++ iw K ad' G9)) := by
    unfold iw
    rw [List.map_append, ← List.cons_append]
    exact List.Perm.append_right _ (p0.map _)
  have p3 : List.Perm (iw J ad G ++ tl) ((ad a, G a) :: (iw (J.erase a) ad' G9 ++ (iw K ad' G9 ++ [(ad' a, G9 a)]))) := by
    rw [← List.cons_append]
    exact List.Perm.append p1 htl
  have p4 : List.Perm ((ad a, G a) :: (iw (J.erase a) ad' G9 ++ (iw K ad' G9 ++ [(ad' a, G9 a)]))) (iw (J ++ K) ad' G9 ++ [(ad a, G a)]) := by
    refine List.Perm.trans ?_ (List.perm_append_comm (l₁ := [(ad a, G a)]))
    refine List.Perm.cons _ ?_
    refine List.Perm.trans ?_ p2.symm
    rw [← List.append_assoc]
    exact List.perm_append_comm (l₂ := [(ad' a, G9 a)])
  exact p3.trans p4
def Nm (N : Nat → Nat) : Nat → Nat := fun q => if q = 0 then N 0 + 1 else N q
def mM (N mst : Nat → Nat) (j : Nat) : Nat → Nat := fun m => if m = N 0 then j else mst m
theorem mM_n {j : Nat} : mM N mst j (N 0) = j := if_pos rfl
theorem mM_o {j m : Nat} (h : m ≠ N 0) : mM N mst j m = mst m := if_neg h
def rM (ρ : Nat → Nat → Int32) : Nat → Nat → Int32 := fun k => if k = 6 then (fun _ => ρ 6 0 + 1) else ρ k
theorem rM_6 : rM ρ 6 = fun _ => ρ 6 0 + 1 := if_pos rfl
theorem rM_o {k : Nat} (h : k ≠ 6) : rM ρ k = ρ k := if_neg h
def aM (ad : Nat → Nat) (z : Nat) : Nat → Nat := fun k => if k = 20 then z else ad k
theorem aM_20 {z : Nat} : aM ad z 20 = z := if_pos rfl
theorem aM_o {z k : Nat} (h : k ≠ 20) : aM ad z k = ad k := if_neg h
theorem aM_s {k : Nat} : aM ad (ad 20) k = ad k := by
  by_cases e : k = 20
  · rw [e, aM_20]
  · exact aM_o e
theorem Nm_liv {j : Nat} : liv (Nm N) j ↔ (j < 16 ∨ j = 20 ∨ (j = 21 ∧ 0 < N 1) ∨ (j = 22 ∧ 0 < N 2) ∨ (100 ≤ j ∧ j < 100 + 3 * N 1) ∨ (200 ≤ j ∧ j < 200 + 2 * N 2)) := by
  unfold liv
  rw [show Nm N 0 = N 0 + 1 from rfl, show Nm N 1 = N 1 from rfl, show Nm N 2 = N 2 from rfl]
  omega
theorem zIH_perm {l : Launch} {y : MethodName} {wsy : List Cond} {rm : Room} {P : (Nat → Prop) → State → Heap → Prop} {D : va_G} {T : Nat → ClassId} {S : Type} {w : va_W} {w1 w2 : S → va_W} {as : List Value} {rv : Int32} {mc ms : Nat} (h : ZIH l y wsy rm P D T w w1 as rv mc ms) (hp : ∀ u, List.Perm (w1 u) (w2 u)) : ZIH l y wsy rm P D T w w2 as rv mc ms := by
  intro sz
  refine Met_mono (h sz) (fun a s q => q) (fun a s o t _ hq => ?_) (fun q h => h)
  obtain ⟨⟨r, u, e1, e2, hP1, hK1, hD1⟩, hz, hk1⟩ := hq
  obtain ⟨d1, d2⟩ := va_D_nd.mp hD1
  refine ⟨⟨r, u, e1, e2, fun k q hk => ?_, hK1, va_D_nd.mpr ⟨((hp u).map Prod.fst).nodup_iff.mp d1, fun q hq => d2 q ((hp u).mem_iff.mpr hq)⟩⟩, hz, hk1⟩
  obtain ⟨i, hi⟩ := List.getElem?_of_mem ((hp u).mem_iff.mpr (List.mem_of_getElem? hk))
  exact hP1 i q hi
def Nb (N : Nat → Nat) : Nat → Nat := fun q => if q = 1 then N 1 + 1 else N q
def bB (N bst : Nat → Nat) (s : Nat) : Nat → Nat := fun i => if i = N 1 then s else bst i
theorem bB_n {s : Nat} : bB N bst s (N 1) = s := if_pos rfl
theorem bB_o {s i : Nat} (h : i ≠ N 1) : bB N bst s i = bst i := if_neg h
def rB (N : Nat → Nat) (ρ : Nat → Nat → Int32) (mo : Nat) (w : Int32) : Nat → Nat → Int32 := fun k => if k = 7 then (fun _ => ρ 7 0 + 1) else if k = 100 + 3 * N 1 then nwB mo w else if k = 101 + 3 * N 1 then fi0 (fun _ => 0) w 8 else if k = 102 + 3 * N 1 then (fun _ => 0) else ρ k
theorem rB_7 {mo : Nat} {w : Int32} : rB N ρ mo w 7 = fun _ => ρ 7 0 + 1 := if_pos rfl
theorem rB_b {mo : Nat} {w : Int32} : rB N ρ mo w (100 + 3 * N 1) = nwB mo w := by
  unfold rB
  rw [if_neg (by omega), if_pos rfl]
theorem rB_a {mo : Nat} {w : Int32} : rB N ρ mo w (101 + 3 * N 1) = fi0 (fun _ => 0) w 8 := by
  unfold rB
  rw [if_neg (by omega), if_neg (by omega), if_pos rfl]
theorem rB_q {mo : Nat} {w : Int32} : rB N ρ mo w (102 + 3 * N 1) = fun _ => 0 := by
  unfold rB
  rw [if_neg (by omega), if_neg (by omega), if_neg (by omega), if_pos rfl]
theorem rB_o {mo : Nat} {w : Int32} {k : Nat} (h1 : k ≠ 7) (h2 : k ≠ 100 + 3 * N 1) (h3 : k ≠ 101 + 3 * N 1) (h4 : k ≠ 102 + 3 * N 1) : rB N ρ mo w k = ρ k := by
  unfold rB
  rw [if_neg h1, if_neg h2, if_neg h3, if_neg h4]
def aB (ad : Nat → Nat) (N : Nat → Nat) (x y z t : Nat) : Nat → Nat := fun k => if k = 100 + 3 * N 1 then x else if k = 101 + 3 * N 1 then y else if k = 102 + 3 * N 1 then z else if k = 21 then t else ad k
section AB9
variable {x y z t : Nat}
theorem aB_b : aB ad N x y z t (100 + 3 * N 1) = x := if_pos rfl
theorem aB_a : aB ad N x y z t (101 + 3 * N 1) = y := by
  unfold aB
  rw [if_neg (by omega), if_pos rfl]
theorem aB_q : aB ad N x y z t (102 + 3 * N 1) = z := by
  unfold aB
  rw [if_neg (by omega), if_neg (by omega), if_pos rfl]
theorem aB_21 : aB ad N x y z t 21 = t := by
  unfold aB
  rw [if_neg (by omega), if_neg (by omega), if_neg (by omega), if_pos rfl]
theorem aB_o {k : Nat} (h1 : k ≠ 100 + 3 * N 1) (h2 : k ≠ 101 + 3 * N 1) (h3 : k ≠ 102 + 3 * N 1) (h4 : k ≠ 21) : aB ad N x y z t k = ad k := by
  unfold aB
  rw [if_neg h1, if_neg h2, if_neg h3, if_neg h4]
theorem aB_s {k : Nat} (h1 : k ≠ 100 + 3 * N 1) (h2 : k ≠ 101 + 3 * N 1) (h3 : k ≠ 102 + 3 * N 1) : aB ad N x y z (ad 21) k = ad k := by
  by_cases e : k = 21
  · rw [e, aB_21]
  · exact aB_o h1 h2 h3 e
end AB9
theorem Nb_liv {j : Nat} : liv (Nb N) j ↔ (j < 16 ∨ (j = 20 ∧ 0 < N 0) ∨ j = 21 ∨ (j = 22 ∧ 0 < N 2) ∨ (100 ≤ j ∧ j < 100 + 3 * (N 1 + 1)) ∨ (200 ≤ j ∧ j < 200 + 2 * N 2)) := by
  unfold liv
  rw [show Nb N 0 = N 0 from rfl, show Nb N 1 = N 1 + 1 from rfl, show Nb N 2 = N 2 from rfl]
  omega
abbrev cW (T : Nat → ClassId) (ea : Nat) (X : PS) : va_W := iw X.J X.ad (hG X.ad T ea nof X.N X.mst X.bst X.ρ)
theorem hcB {cy : MethodName} {cws : List Cond} {las : List Value} {k : Int32} {rm : Room} {mc ms : Nat} {lw : va_W} {Ψ : PS → Prop} (hJ : CJ J N) {js : List Nat} (hjs : js.Nodup) (hl : ∀ j ∈ js, liv N j) {S1 : Type} {G' : S1 → Nat → va_E} {tl : S1 → va_W}
    (h : ZIH l cy cws rm (zX ea mi sa) D T (S := S1) (iw js ad (hG ad T ea nof N mst bst ρ)) (fun u => iw js ad (G' u) ++ tl u) las k mc ms) (hrm : rm.frames ≤ 8 ∧ rm.locals ≤ 300 ∧ rm.cells ≤ 5 ∧ rm.slots ≤ 70) (hm : mc ≤ 5 ∧ ms ≤ 70)
    (hag : ∀ u j, j ∈ J → j ∉ js → G' u j = hG ad T ea nof N mst bst ρ j) (hfin : ∀ u : S1, ∃ X : PS, (∃ gb : va_W, List.Perm (iw J ad (G' u) ++ tl u) (cW T ea X ++ gb)) ∧ Ψ X) :
    ZIH l cy cws hR9 (zX ea mi sa) D T (S := {X : PS // Ψ X}) (lw ++ iw J ad (hG ad T ea nof N mst bst ρ)) (fun X => lw ++ cW T ea X.1) las k 5 70 := by
  have g := fr_iw (zX_k ea mi sa) (S := S1) (J := J) (js := js) (ad := ad) (G := hG ad T ea nof N mst bst ρ) (wG := fun u => iw js ad (G' u) ++ tl u) h hJ.1 hjs (fun j hj => (hJ.2.1 j).mpr (hl j hj)) G' tl (fun _ => rfl) hag
  obtain ⟨is, h1, h2, h3⟩ := mid_put4 lw (iw J ad (hG ad T ea nof N mst bst ρ))
  have el : ∀ u, (iw J ad (G' u)).length = (iw J ad (hG ad T ea nof N mst bst ρ)).length := fun u => by unfold iw; rw [List.length_map, List.length_map]
  have g2 := zIH_frame (zX_k ea mi sa) (wF := fun u => lw ++ (iw J ad (G' u) ++ tl u)) g is h1 h2 (fun u j hj => by
    rw [List.map_append, List.getElem?_append_left (by rw [List.length_map, el u]; exact hj)]
    unfold iw
    rw [List.map_map, List.map_map]
    rfl) (fun u => by
    rw [List.length_append, el u]
    exact Nat.le_add_right _ _) (fun u => h3 _ (by
    rw [List.length_append, el u]
    exact Nat.le_add_right _ _))
  refine zIH_post (zIH_room g2 hrm hm) (fun u => ?_)
  obtain ⟨X, ⟨gb, hp⟩, hX⟩ := hfin u
  refine ⟨⟨X, hX⟩, gb, ?_⟩
  show List.Perm (lw ++ (iw J ad (G' u) ++ tl u)) ((lw ++ cW T ea X) ++ gb)
  rw [List.append_assoc]
  exact List.Perm.append_left lw hp
theorem BIc_N {n0 n3 n0' n3' : Nat} {b9 : Nat} {β α κ : Nat → Int32} {ai ci : Int32} (h0 : n0 ≤ n0') (hm : ∀ m, m < n0 → mst' m = mst m) (h3 : n3 ≤ n3') (h : BIc C n0 n3 mst b9 β α κ ai ci) : BIc C n0' n3' mst' b9 β α κ ai ci := by
  obtain ⟨⟨mo, a1, a2, a3⟩, g2, g3, g4, g5, g6, g7, g8, g9, g10, g11⟩ := h
  refine ⟨⟨mo, by omega, a2, by rw [hm mo a1]; exact a3⟩, g2, g3, g4, g5, g6, g7, g8, g9, ?_, g11⟩
  rcases g10 with q | ⟨ld, q1, q2⟩
  · exact Or.inl q
  · exact Or.inr ⟨ld, by omega, q2⟩
theorem die_inv {J' : List Nat} (hI : Inv C J N mst bst ρ a c) (h4 : N 2 < 4) (hJ' : J'.Nodup) (hm' : ∀ j, j ∈ J' ↔ liv (Nd N) j) : Inv C J' (Nd N) mst bst (rD N ρ) a c := by
  obtain ⟨h1, h2, h3, h5, h6, h7, h8, h9⟩ := hI
  obtain ⟨-, -, c3, c4, c5⟩ := h1
  refine ⟨⟨hJ', hm', c3, c4, h4⟩, fun s hs => ?_, h3, ?_, fun d hd => ?_, ?_, fun i hi => ?_, h9⟩
  · rw [rD_o (by omega) (by omega) (by omega)]
    exact h2 s hs
  · rw [rD_o (by omega) (by omega) (by omega)]
    exact h5
  · have hd9 : d < N 2 + 1 := hd
    by_cases e : d = N 2
    · rw [e, rD_d, rD_e]
      exact ⟨⟨100, by decide, by decide, rfl⟩, fun j hj => by rw [fi0_at _ _ 8 j hj]; exact ⟨10, by decide, by decide, rfl⟩⟩
    · rw [rD_o (by omega) (by omega) (by omega), rD_o (by omega) (by omega) (by omega)]
      exact h6 d (by omega)
  · rw [rD_o (by omega) (by omega) (by omega), rD_o (by omega) (by omega) (by omega)]
    exact h7
  · have hi9 : i < N 1 := hi
    rw [rD_o (by omega) (by omega) (by omega), rD_o (by omega) (by omega) (by omega), rD_o (by omega) (by omega) (by omega)]
    exact h8 i hi
theorem melt_inv {J' : List Nat} {j : Nat} (hj : j < 4) (hI : Inv C J N mst bst ρ a c) (h4 : N 0 < 20) (hJ' : J'.Nodup) (hm' : ∀ j, j ∈ J' ↔ liv (Nm N) j) : Inv C J' (Nm N) (mM N mst j) bst (rM ρ) a c := by
  obtain ⟨h1, h2, h3, h5, h6, h7, h8, h9⟩ := hI
  obtain ⟨-, -, c3, c4, c5⟩ := h1
  refine ⟨⟨hJ', hm', h4, c4, c5⟩, fun s hs => ?_, fun m hm => ?_, ?_, fun d hd => ?_, ?_, fun i hi => ?_, h9⟩
  · rw [rM_o (by omega)]
    exact h2 s hs
  · have hm9 : m < N 0 + 1 := hm
    by_cases e : m = N 0
    · rw [e, mM_n]
      exact hj
    · rw [mM_o e]
      exact h3 m (by omega)
  · rw [rM_o (by omega)]
    exact h5
  · rw [rM_o (by omega), rM_o (by omega)]
    exact h6 d hd
  · rw [rM_o (by omega), rM_o (by omega)]
    exact h7
  · rw [rM_o (by omega), rM_o (by omega), rM_o (by omega)]
    exact BIc_N (Nat.le_succ _) (fun m hm => mM_o (by omega)) (Nat.le_refl _) (h8 i hi)
theorem vS_new {w : Nat} (hw : 1 ≤ w) : vS (fi0 (fun _ => 0) (nI w) 8) (8 * w) := by
  refine ⟨fun _ => w, fun j hj => ⟨fi0_at _ _ 8 j hj, hw⟩, ?_⟩
  show 0 + w + w + w + w + w + w + w + w = 8 * w
  omega
theorem billet_inv {J' : List Nat} {mo nw : Nat} {w : Int32} (hmo : mo < N 0) (hw : w = nI nw) (w1 : 2 ≤ nw) (w2 : nw ≤ 61) (hI : Inv C J N mst bst ρ a c) (h4 : N 1 < 12) (hJ' : J'.Nodup) (hm' : ∀ j, j ∈ J' ↔ liv (Nb N) j) : Inv C J' (Nb N) mst (bB N bst (mst mo)) (rB N ρ mo w) (upd a (N 1) w) c := by
  obtain ⟨h1, h2, h3, h5, h6, h7, h8, h9⟩ := hI
  obtain ⟨-, -, c3, c4, c5⟩ := h1
  have hr : ∀ k, k < 100 → k ≠ 7 → rB N ρ mo w k = ρ k := fun k hk h => rB_o h (by omega) (by omega) (by omega)
  refine ⟨⟨hJ', hm', c3, h4, c5⟩, fun s hs => ?_, h3, ?_, fun d hd => ?_, ?_, fun i hi => ?_, fun i q1 q2 => ?_⟩
  · rw [hr _ (by omega) (by omega)]
    exact h2 s hs
  · rw [hr _ (by omega) (by omega)]
    exact h5
  · rw [rB_o (by omega) (by omega) (by omega) (by omega), rB_o (by omega) (by omega) (by omega) (by omega)]
    exact h6 d hd
  · rw [hr _ (by omega) (by omega), hr _ (by omega) (by omega)]
    exact h7
  · have hi9 : i < N 1 + 1 := hi
    by_cases e : i = N 1
    · subst e
      rw [rB_b, rB_a, rB_q, bB_n, upd_same, hw]
      refine ⟨⟨mo, hmo, rfl, rfl⟩, ⟨nw, w2, rfl, ?_, 8 * nw, 0, 0, 0, vS_new (by omega), rfl, rfl, rfl, by omega⟩, ⟨20, by decide, by decide, rfl⟩, ⟨20, by decide, by decide, rfl⟩, ⟨(h9 _ (Nat.le_refl _) h4).symm, 0, by decide, by decide, rfl⟩, ⟨50, by decide, by decide, rfl⟩, ⟨0, by decide, Nat.zero_le _, rfl⟩, Or.inl rfl, ⟨240, by decide, by decide, rfl⟩, Or.inl rfl, Or.inr rfl⟩
      show nI nw * 8 = nI (8 * nw)
      rw [show (8 : Int32) = nI 8 from rfl, pk_mul, Nat.mul_comm]
    · rw [rB_o (by omega) (by omega) (by omega) (by omega), rB_o (by omega) (by omega) (by omega) (by omega), rB_o (by omega) (by omega) (by omega) (by omega), bB_o e, upd_ne _ _ e]
      exact h8 i (by omega)
  · have q1' : N 1 + 1 ≤ i := q1
    exact h9 i (by omega) q2
theorem hc_die (hI : Inv C J N mst bst ρ a c) (h4 : N 2 < 4) (lw : va_W) : ZIH l yL_die wsL_die hR9 (zX ea mi sa) D T (S := {X : PS // X.ad 0 = ad 0 ∧ X.N = Nd N ∧ Inv C X.J X.N X.mst X.bst X.ρ a c}) (lw ++ iw J ad (hG ad T ea nof N mst bst ρ)) (fun X => lw ++ cW T ea X.1) [.ref (ad 0)] (nI (N 2)) 5 70 := by
  have hJ := hI.1.1
  have hmm := hI.1.2.1
  have hn0 := hI.1.2.2.1
  have hn1 := hI.1.2.2.2.1
  have hn2 := hI.1.2.2.2.2
  have hb4 : ∀ i, i < N 1 → bst i = bst i ∧ bst i < 4 := fun i hi => ⟨rfl, I_b4 hI hi⟩
  have hm4 : ∀ i, i < N 0 → mst i = mst i ∧ mst i < 4 := fun i hi => ⟨rfl, hI.2.2.1 i hi⟩
  by_cases h0 : N 2 = 0
  · rw [show nI (N 2) = 0 from (congrArg nI h0).trans nI_0]
    have hw := lk_die l D T ea mi sa _ (ch_die_e l D T ea mi sa (ad 0) ad (ρ 0 0) (ρ 8 0)) ⟨rfl, rfl⟩ (fun u j hj => List.getElem?_append_left (l₁ := [ad 0, ad 8]) (l₂ := [u.1, u.2.1, u.2.2]) hj) (fun _ => Nat.le_of_ble_eq_true rfl)
    have e1 : iw [0, 8] ad (hG ad T ea nof N mst bst ρ) = [(ad 0, .inr (6, hsF ad (ρ 0 0))), (ad 8, .inr (0, [.int (ρ 8 0), .ref ea, .int 0]))] := by
      show [(ad 0, (Sum.inr (6, hsF ad (ρ 0 0)) : va_E)), (ad 8, Sum.inr (0, [Value.int (ρ 8 0), Value.ref (if N 2 = 0 then ea else ad 22), Value.int (nI (N 2))]))] = _
      rw [if_pos h0, h0, nI_0]
    have g9 : ∀ (u : Nat × Nat × Nat) (f' : Nat → Int64) (j : Nat), liv N j → j ≠ 8 → hG (aD ad N u.1 u.2.1 u.2.2) T ea f' (Nd N) mst bst (rD N ρ) j = hG ad T ea nof N mst bst ρ j := fun u f' j hl h8 => by
      have hne : j ≠ 200 + 2 * N 2 ∧ j ≠ 201 + 2 * N 2 ∧ j ≠ 22 := by
        unfold liv at hl
        omega
      exact hG_new hl (fun k hk => aD_o (by omega) (by omega) (by omega)) (fun k k1 k2 => aD_o (by omega) (by omega) (by omega)) (fun k k1 k2 => aD_o (by omega) (by omega) (by omega)) hb4 hn1 hn2 (rD_o h8 hne.1 hne.2.1) (fun _ => ⟨rfl, aD_o (by omega) (by omega) (by omega), hm4⟩) (fun _ => ⟨rfl, aD_o (by omega) (by omega) (by omega)⟩) (fun h => absurd h (by omega))
    have e2 : ∀ (u : Nat × Nat × Nat) (f' : Nat → Int64), [(ad 0, (Sum.inr (6, hsF ad (ρ 0 0)) : va_E)), (ad 8, .inr (0, [.int (ρ 8 0 + 1), .ref u.2.2, .int 1])), (u.1, .inr (2, [.ref u.2.1, .int 100])), (u.2.1, .inl (T 0, 8, .inl (fi0 (fun _ => 0) 10 8))), (u.2.2, .inl (T 3, 10, qa (va_up (fun _ => none) 0 (some u.1))))] = iw [0, 8] ad (hG (aD ad N u.1 u.2.1 u.2.2) T ea f' (Nd N) mst bst (rD N ρ)) ++ iw [200 + 2 * N 2, 201 + 2 * N 2, 22] (aD ad N u.1 u.2.1 u.2.2) (hG (aD ad N u.1 u.2.1 u.2.2) T ea f' (Nd N) mst bst (rD N ρ)) := fun u f' => by
      have r8 : hG (aD ad N u.1 u.2.1 u.2.2) T ea f' (Nd N) mst bst (rD N ρ) 8 = .inr (0, [.int (ρ 8 0 + 1), .ref u.2.2, .int 1]) := by
        rw [hG_8 (show 0 < Nd N 2 from Nat.succ_pos _), aD_22, rD_8, show Nd N 2 = N 2 + 1 from rfl, h0]
        rfl
      have r22 : hG (aD ad N u.1 u.2.1 u.2.2) T ea f' (Nd N) mst bst (rD N ρ) 22 = .inl (T 3, 10, qa (va_up (fun _ => none) 0 (some u.1))) := by
        rw [liF_0 (ad' := aD ad N u.1 u.2.1 u.2.2) (ix' := fun i => 200 + 2 * i) (a := u.1) (by rw [← h0]; exact aD_d)]
        show (Sum.inl (T 3, cap (Nd N 2), qa (liF (aD ad N u.1 u.2.1 u.2.2) (fun i => 200 + 2 * i) (Nd N 2))) : va_E) = _
        rw [show Nd N 2 = N 2 + 1 from rfl, h0]
        rfl
      rw [iw_cons, iw_cons, iw_nil, iw_cons, iw_cons, iw_cons, iw_nil, g9 u f' 0 (Or.inl (by decide)) (by decide), r8, r22, hG_d h4, hG_e h4, aD_d, aD_e, aD_22, rD_d, rD_e]
      rfl
    rw [← e1] at hw
    have e3 := fun f' => funext (fun u => e2 u f')
    refine hcB (lw := lw) (rm := lkR (zrmc 5 151 3 20) 2 3 20) (mc := 3) (ms := 20) (S1 := Nat × Nat × Nat) (js := [0, 8]) (G' := fun u => hG (aD ad N u.1 u.2.1 u.2.2) T ea nof (Nd N) mst bst (rD N ρ)) (tl := fun u => iw [200 + 2 * N 2, 201 + 2 * N 2, 22] (aD ad N u.1 u.2.1 u.2.2) (hG (aD ad N u.1 u.2.1 u.2.2) T ea nof (Nd N) mst bst (rD N ρ))) hI.1 (by decide) (fun j hj => by simp only [List.mem_cons, List.not_mem_nil, or_false] at hj; unfold liv; omega) ?_ ⟨Nat.le_of_ble_eq_true rfl, Nat.le_of_ble_eq_true rfl, Nat.le_of_ble_eq_true rfl, Nat.le_of_ble_eq_true rfl⟩ ⟨by decide, by decide⟩ (fun u j hj hn => g9 u _ j ((hmm j).mp hj) (fun e => hn (by rw [e]; decide))) (fun u => ⟨⟨J ++ [200 + 2 * N 2, 201 + 2 * N 2, 22], aD ad N u.1 u.2.1 u.2.2, Nd N, mst, bst, rD N ρ⟩, perm_new (fun j hj => ?_) (List.Perm.refl _), aD_o (by omega) (by omega) (by omega), rfl, die_inv hI h4 ?_ (fun j => ?_)⟩)
    · have e4 : (fun u : Nat × Nat × Nat => (iw [0, 8] ad (hG (aD ad N u.1 u.2.1 u.2.2) T ea nof (Nd N) mst bst (rD N ρ)) ++ iw [200 + 2 * N 2, 201 + 2 * N 2, 22] (aD ad N u.1 u.2.1 u.2.2) (hG (aD ad N u.1 u.2.1 u.2.2) T ea nof (Nd N) mst bst (rD N ρ)))) = fun u => [(ad 0, (Sum.inr (6, hsF ad (ρ 0 0)) : va_E)), (ad 8, .inr (0, [.int (ρ 8 0 + 1), .ref u.2.2, .int 1])), (u.1, .inr (2, [.ref u.2.1, .int 100])), (u.2.1, .inl (T 0, 8, .inl (fi0 (fun _ => 0) 10 8))), (u.2.2, .inl (T 3, 10, qa (va_up (fun _ => none) 0 (some u.1))))] := funext (fun u => by rw [e2 u nof])
      rw [e4]
      exact hw
    · have hl := (hmm j).mp hj
      have hne : j ≠ 200 + 2 * N 2 ∧ j ≠ 201 + 2 * N 2 ∧ j ≠ 22 := by
        unfold liv at hl
        omega
      exact aD_o hne.1 hne.2.1 hne.2.2
    · refine List.nodup_append.mpr ⟨hJ, ?_, fun a ha b hb e => ?_⟩
      · simp only [List.nodup_cons, List.mem_cons, List.not_mem_nil, or_false, List.nodup_nil, and_true, not_false_eq_true]
        omega
      · have hl := (hmm a).mp ha
        simp only [List.mem_cons, List.not_mem_nil, or_false] at hb
        unfold liv at hl
        omega
    · rw [List.mem_append, Nd_liv, hmm j]
      simp only [List.mem_cons, List.not_mem_nil, or_false]
      unfold liv
      omega
  · have hp : 0 < N 2 := Nat.pos_of_ne_zero h0
    have hc9 := (cap_le (g := N 2) (by omega)).2
    have hcp : N 2 < cap (N 2) := by
      have e : cap (N 2) = 10 := if_pos (by omega)
      rw [e]
      omega
    have hw := lk_die l D T ea mi sa _ (ch_die_r l D T ea mi sa (ad 0) ad (ρ 0 0) (ρ 8 0) (ad 22) (cap (N 2)) (N 2) (liF ad (fun i => 200 + 2 * i) (N 2)) h4 hcp hc9) ⟨rfl, rfl⟩ (fun u j hj => List.getElem?_append_left (l₁ := [ad 0, ad 8, ad 22]) (l₂ := [u.1, u.2]) hj) (fun _ => Nat.le_of_ble_eq_true rfl)
    have e1 : iw [0, 8, 22] ad (hG ad T ea nof N mst bst ρ) = [(ad 0, .inr (6, hsF ad (ρ 0 0))), (ad 8, .inr (0, [.int (ρ 8 0), .ref (ad 22), .int (nI (N 2))])), (ad 22, .inl (T 3, cap (N 2), qa (liF ad (fun i => 200 + 2 * i) (N 2))))] := by
      rw [iw_cons, iw_cons, iw_cons, iw_nil, hG_8 hp]
      rfl
    have g9 : ∀ (u : Nat × Nat) (f' : Nat → Int64) (j : Nat), liv N j → j ≠ 8 → j ≠ 22 → hG (aD ad N u.1 u.2 (ad 22)) T ea f' (Nd N) mst bst (rD N ρ) j = hG ad T ea nof N mst bst ρ j := fun u f' j hl h8 h22 => by
      have hne : j ≠ 200 + 2 * N 2 ∧ j ≠ 201 + 2 * N 2 := by
        unfold liv at hl
        omega
      exact hG_new hl (fun k hk => aD_22s (by omega) (by omega)) (fun k k1 k2 => aD_22s (by omega) (by omega)) (fun k k1 k2 => aD_22s (by omega) (by omega)) hb4 hn1 hn2 (rD_o h8 hne.1 hne.2) (fun _ => ⟨rfl, aD_22s (by omega) (by omega), hm4⟩) (fun _ => ⟨rfl, aD_22s (by omega) (by omega)⟩) (fun h => absurd h (by omega))
    have e2 : ∀ (u : Nat × Nat) (f' : Nat → Int64), [(ad 0, (Sum.inr (6, hsF ad (ρ 0 0)) : va_E)), (ad 8, .inr (0, [.int (ρ 8 0 + 1), .ref (ad 22), .int (nI (N 2 + 1))])), (ad 22, .inl (T 3, cap (N 2), qa (va_up (liF ad (fun i => 200 + 2 * i) (N 2)) (N 2) (some u.1)))), (u.1, .inr (2, [.ref u.2, .int 100])), (u.2, .inl (T 0, 8, .inl (fi0 (fun _ => 0) 10 8)))] = iw [0, 8, 22] ad (hG (aD ad N u.1 u.2 (ad 22)) T ea f' (Nd N) mst bst (rD N ρ)) ++ iw [200 + 2 * N 2, 201 + 2 * N 2] (aD ad N u.1 u.2 (ad 22)) (hG (aD ad N u.1 u.2 (ad 22)) T ea f' (Nd N) mst bst (rD N ρ)) := fun u f' => by
      have r8 : hG (aD ad N u.1 u.2 (ad 22)) T ea f' (Nd N) mst bst (rD N ρ) 8 = .inr (0, [.int (ρ 8 0 + 1), .ref (ad 22), .int (nI (N 2 + 1))]) := by
        rw [hG_8 (show 0 < Nd N 2 from Nat.succ_pos _), aD_22, rD_8, show Nd N 2 = N 2 + 1 from rfl]
      have r22 : hG (aD ad N u.1 u.2 (ad 22)) T ea f' (Nd N) mst bst (rD N ρ) 22 = .inl (T 3, cap (N 2), qa (va_up (liF ad (fun i => 200 + 2 * i) (N 2)) (N 2) (some u.1))) := by
        rw [liF_up (ad' := aD ad N u.1 u.2 (ad 22)) (ix' := fun i => 200 + 2 * i) (a := u.1) (fun i hi => aD_22s (by omega) (by omega)) aD_d, ← cap_succ hcp]
        rfl
      rw [iw_cons, iw_cons, iw_cons, iw_nil, iw_cons, iw_cons, iw_nil, g9 u f' 0 (Or.inl (by decide)) (by decide) (by decide), r8, r22, hG_d h4, hG_e h4, aD_d, aD_e, rD_d, rD_e]
      rfl
    rw [← e1] at hw
    refine hcB (lw := lw) (rm := lkR (zrmc 2 44 2 10) 2 2 10) (mc := 2) (ms := 10) (S1 := Nat × Nat) (js := [0, 8, 22]) (G' := fun u => hG (aD ad N u.1 u.2 (ad 22)) T ea nof (Nd N) mst bst (rD N ρ)) (tl := fun u => iw [200 + 2 * N 2, 201 + 2 * N 2] (aD ad N u.1 u.2 (ad 22)) (hG (aD ad N u.1 u.2 (ad 22)) T ea nof (Nd N) mst bst (rD N ρ))) hI.1 (by decide) (fun j hj => by simp only [List.mem_cons, List.not_mem_nil, or_false] at hj; unfold liv; omega) ?_ ⟨Nat.le_of_ble_eq_true rfl, Nat.le_of_ble_eq_true rfl, Nat.le_of_ble_eq_true rfl, Nat.le_of_ble_eq_true rfl⟩ ⟨by decide, by decide⟩ (fun u j hj hn => g9 u _ j ((hmm j).mp hj) (fun e => hn (by rw [e]; decide)) (fun e => hn (by rw [e]; decide))) (fun u => ⟨⟨J ++ [200 + 2 * N 2, 201 + 2 * N 2], aD ad N u.1 u.2 (ad 22), Nd N, mst, bst, rD N ρ⟩, perm_new (fun j hj => ?_) (List.Perm.refl _), aD_22s (by omega) (by omega), rfl, die_inv hI h4 ?_ (fun j => ?_)⟩)
    · have e4 : (fun u : Nat × Nat => (iw [0, 8, 22] ad (hG (aD ad N u.1 u.2 (ad 22)) T ea nof (Nd N) mst bst (rD N ρ)) ++ iw [200 + 2 * N 2, 201 + 2 * N 2] (aD ad N u.1 u.2 (ad 22)) (hG (aD ad N u.1 u.2 (ad 22)) T ea nof (Nd N) mst bst (rD N ρ)))) = fun u => [(ad 0, (Sum.inr (6, hsF ad (ρ 0 0)) : va_E)), (ad 8, .inr (0, [.int (ρ 8 0 + 1), .ref (ad 22), .int (nI (N 2 + 1))])), (ad 22, .inl (T 3, cap (N 2), qa (va_up (liF ad (fun i => 200 + 2 * i) (N 2)) (N 2) (some u.1)))), (u.1, .inr (2, [.ref u.2, .int 100])), (u.2, .inl (T 0, 8, .inl (fi0 (fun _ => 0) 10 8)))] := funext (fun u => by rw [e2 u nof])
      rw [e4]
      exact hw
    · have hl := (hmm j).mp hj
      have hne : j ≠ 200 + 2 * N 2 ∧ j ≠ 201 + 2 * N 2 := by
        unfold liv at hl
        omega
      exact aD_22s hne.1 hne.2
    · refine List.nodup_append.mpr ⟨hJ, ?_, fun a ha b hb e => ?_⟩
      · simp only [List.nodup_cons, List.mem_cons, List.not_mem_nil, or_false, List.nodup_nil, and_true, not_false_eq_true]
        omega
      · have hl := (hmm a).mp ha
        simp only [List.mem_cons, List.not_mem_nil, or_false] at hb
        unfold liv at hl
        omega
    · rw [List.mem_append, Nd_liv, hmm j]
      simp only [List.mem_cons, List.not_mem_nil, or_false]
      unfold liv
      omega
theorem hc_melt (hI : Inv C J N mst bst ρ a c) {j : Nat} (hj : j < 4) (h4 : N 0 < 20) (lw : va_W) : ZIH l yL_melt wsL_melt hR9 (zX ea mi sa) D T (S := {X : PS // X.ad 0 = ad 0 ∧ X.N = Nm N ∧ Inv C X.J X.N X.mst X.bst X.ρ a c}) (lw ++ iw J ad (hG ad T ea nof N mst bst ρ)) (fun X => lw ++ cW T ea X.1) [.ref (ad 0), .int (nI j)] (nI (N 0)) 5 70 := by
  have hJ := hI.1.1
  have hmm := hI.1.2.1
  have hn0 := hI.1.2.2.1
  have hn1 := hI.1.2.2.2.1
  have hn2 := hI.1.2.2.2.2
  have hb4 : ∀ i, i < N 1 → bst i = bst i ∧ bst i < 4 := fun i hi => ⟨rfl, I_b4 hI hi⟩
  have hm4 : ∀ i, i < N 0 → mst i < 4 := fun i hi => hI.2.2.1 i hi
  have g9 : ∀ (z : Nat) (f' : Nat → Int64) (k : Nat), liv N k → k ≠ 6 → k ≠ 20 → hG (aM ad z) T ea f' (Nm N) (mM N mst j) bst (rM ρ) k = hG ad T ea nof N mst bst ρ k := fun z f' k hl h6 h20 => hG_new hl (fun k hk => aM_o (by omega)) (fun k k1 k2 => aM_o (by omega)) (fun k k1 k2 => aM_o (by omega)) hb4 hn1 hn2 (rM_o h6) (fun h => absurd h (by omega)) (fun _ => ⟨rfl, aM_o (by omega)⟩) (fun _ => ⟨rfl, aM_o (by omega)⟩)
  have r6 : ∀ (z : Nat) (f' : Nat → Int64), hG (aM ad z) T ea f' (Nm N) (mM N mst j) bst (rM ρ) 6 = .inr (0, [.int (ρ 6 0 + 1), .ref z, .int (nI (N 0 + 1))]) := fun z f' => by
    rw [hG_6 (show 0 < Nm N 0 from Nat.succ_pos _), aM_20, rM_6, show Nm N 0 = N 0 + 1 from rfl]
  have r20 : ∀ (z : Nat) (f' : Nat → Int64), hG (aM ad z) T ea f' (Nm N) (mM N mst j) bst (rM ρ) 20 = .inl (T 3, cap (N 0 + 1), qa (va_up (liF ad (fun i => 2 + mst i) (N 0)) (N 0) (some (ad (2 + j))))) := fun z f' => by
    rw [liF_up (ad' := aM ad z) (ix' := fun i => 2 + mM N mst j i) (a := ad (2 + j)) (fun i hi => by rw [mM_o (by omega)]; exact aM_o (by have := hm4 i hi; omega)) (by rw [mM_n]; exact aM_o (by omega))]
    rfl
  have g5 : ∀ (z : Nat) (f' : Nat → Int64), hG (aM ad z) T ea f' (Nm N) (mM N mst j) bst (rM ρ) (2 + j) = .inr (5, [.int (ρ (2 + j) 0), .int (ρ (2 + j) 1), .int (ρ (2 + j) 2)]) := fun z f' => by
    rw [hG_s hj, rM_o (by omega)]
  by_cases h0 : N 0 = 0
  · rw [show nI (N 0) = 0 from (congrArg nI h0).trans nI_0]
    have hw := lk_melt l D T ea mi sa _ (nI j) (ch_melt_e l D T ea mi sa (ad 0) ad (ρ 0 0) (stf ad) (ad (2 + j)) j (ρ (2 + j)) hj (stf_at ad hj) (ρ 6 0)) ⟨rfl, rfl⟩ (fun u k hk => List.getElem?_append_left (l₁ := [ad 0, ad 1, ad 6, ad (2 + j)]) (l₂ := [u]) hk) (fun _ => Nat.le_of_ble_eq_true rfl)
    have e1 : iw [0, 1, 6, 2 + j] ad (hG ad T ea nof N mst bst ρ) = [(ad 0, .inr (6, hsF ad (ρ 0 0))), (ad 1, .inl (T 4, 4, qa (stf ad))), (ad 6, .inr (0, [.int (ρ 6 0), .ref ea, .int 0])), (ad (2 + j), .inr (5, [.int (ρ (2 + j) 0), .int (ρ (2 + j) 1), .int (ρ (2 + j) 2)]))] := by
      rw [iw_cons, iw_cons, iw_cons, iw_cons, iw_nil, hG_s hj]
      show [(ad 0, (Sum.inr (6, hsF ad (ρ 0 0)) : va_E)), (ad 1, .inl (T 4, 4, qa (stf ad))), (ad 6, Sum.inr (0, [Value.int (ρ 6 0), Value.ref (if N 0 = 0 then ea else ad 20), Value.int (nI (N 0))])), _] = _
      rw [if_pos h0, h0, nI_0]
    have e2 : ∀ (u : Nat) (f' : Nat → Int64), [(ad 0, (Sum.inr (6, hsF ad (ρ 0 0)) : va_E)), (ad 1, .inl (T 4, 4, qa (stf ad))), (ad 6, .inr (0, [.int (ρ 6 0 + 1), .ref u, .int 1])), (ad (2 + j), .inr (5, [.int (ρ (2 + j) 0), .int (ρ (2 + j) 1), .int (ρ (2 + j) 2)])), (u, .inl (T 3, 10, qa (va_up (fun _ => none) 0 (some (ad (2 + j))))))] = iw [0, 1, 6, 2 + j] ad (hG (aM ad u) T ea f' (Nm N) (mM N mst j) bst (rM ρ)) ++ iw [20] (aM ad u) (hG (aM ad u) T ea f' (Nm N) (mM N mst j) bst (rM ρ)) := fun u f' => by
      have e0 : (fun _ => none : Nat → Option Nat) = liF ad (fun i => 2 + mst i) (N 0) := by
        funext i
        rw [h0]
        exact (if_neg (Nat.not_lt_zero i)).symm
      rw [iw_cons, iw_cons, iw_cons, iw_cons, iw_nil, iw_cons, iw_nil, g9 u f' 0 (Or.inl (by decide)) (by decide) (by decide), g9 u f' 1 (Or.inl (by decide)) (by decide) (by decide), r6, r20, g5, aM_20, e0, h0]
      rfl
    rw [← e1] at hw
    refine hcB (lw := lw) (rm := lkR (zrmc 5 151 1 10) 4 1 10) (mc := 1) (ms := 10) (S1 := Nat) (js := [0, 1, 6, 2 + j]) (G' := fun u => hG (aM ad u) T ea nof (Nm N) (mM N mst j) bst (rM ρ)) (tl := fun u => iw [20] (aM ad u) (hG (aM ad u) T ea nof (Nm N) (mM N mst j) bst (rM ρ))) hI.1 ?_ (fun k hk => by simp only [List.mem_cons, List.not_mem_nil, or_false] at hk; unfold liv; omega) ?_ ⟨Nat.le_of_ble_eq_true rfl, Nat.le_of_ble_eq_true rfl, Nat.le_of_ble_eq_true rfl, Nat.le_of_ble_eq_true rfl⟩ ⟨by decide, by decide⟩ (fun u k hk hn => g9 u _ k ((hmm k).mp hk) (fun e => hn (by rw [e]; simp)) (fun e => by have := (hmm k).mp hk; unfold liv at this; omega)) (fun u => ⟨⟨J ++ [20], aM ad u, Nm N, mM N mst j, bst, rM ρ⟩, perm_new (fun k hk => aM_o (fun e => by have := (hmm k).mp hk; unfold liv at this; omega)) (List.Perm.refl _), (show (aM ad u) 0 = ad 0 from aM_o (by decide)), rfl, melt_inv hj hI h4 ?_ (fun k => ?_)⟩)
    · simp only [List.nodup_cons, List.mem_cons, List.not_mem_nil, or_false, List.nodup_nil, and_true, not_false_eq_true]
      omega
    · have e4 : (fun u : Nat => (iw [0, 1, 6, 2 + j] ad (hG (aM ad u) T ea nof (Nm N) (mM N mst j) bst (rM ρ)) ++ iw [20] (aM ad u) (hG (aM ad u) T ea nof (Nm N) (mM N mst j) bst (rM ρ)))) = fun u => [(ad 0, (Sum.inr (6, hsF ad (ρ 0 0)) : va_E)), (ad 1, .inl (T 4, 4, qa (stf ad))), (ad 6, .inr (0, [.int (ρ 6 0 + 1), .ref u, .int 1])), (ad (2 + j), .inr (5, [.int (ρ (2 + j) 0), .int (ρ (2 + j) 1), .int (ρ (2 + j) 2)])), (u, .inl (T 3, 10, qa (va_up (fun _ => none) 0 (some (ad (2 + j))))))] := funext (fun u => by rw [e2 u nof])
      rw [e4]
      exact hw
    · refine List.nodup_append.mpr ⟨hJ, (by simp), fun a ha b hb e => ?_⟩
      have hl := (hmm a).mp ha
      simp only [List.mem_cons, List.not_mem_nil, or_false] at hb
      unfold liv at hl
      omega
    · rw [List.mem_append, Nm_liv, hmm k]
      simp only [List.mem_cons, List.not_mem_nil, or_false]
      unfold liv
      omega
  · have hp : 0 < N 0 := Nat.pos_of_ne_zero h0
    have hc9 := cap_le (g := N 0) (by omega)
    have hJm : ∀ k, k ∈ J ↔ liv (Nm N) k := fun k => by
      rw [Nm_liv, hmm k]
      unfold liv
      omega
    by_cases hcp : N 0 < cap (N 0)
    · have hw := lk_melt l D T ea mi sa _ (nI j) (ch_melt_r l D T ea mi sa (ad 0) ad (ρ 0 0) (stf ad) (ad (2 + j)) j (ρ (2 + j)) hj (stf_at ad hj) (ρ 6 0) (ad 20) (cap (N 0)) (N 0) (liF ad (fun i => 2 + mst i) (N 0)) h4 hcp hc9.2) ⟨rfl, rfl⟩ (fun _ _ _ => rfl) (fun _ => Nat.le_refl _)
      have e1 : iw [0, 1, 6, 20, 2 + j] ad (hG ad T ea nof N mst bst ρ) = [(ad 0, .inr (6, hsF ad (ρ 0 0))), (ad 1, .inl (T 4, 4, qa (stf ad))), (ad 6, .inr (0, [.int (ρ 6 0), .ref (ad 20), .int (nI (N 0))])), (ad 20, .inl (T 3, cap (N 0), qa (liF ad (fun i => 2 + mst i) (N 0)))), (ad (2 + j), .inr (5, [.int (ρ (2 + j) 0), .int (ρ (2 + j) 1), .int (ρ (2 + j) 2)]))] := by
        rw [iw_cons, iw_cons, iw_cons, iw_cons, iw_cons, iw_nil, hG_s hj, hG_6 hp]
        rfl
      have e2 : ∀ (f' : Nat → Int64), [(ad 0, (Sum.inr (6, hsF ad (ρ 0 0)) : va_E)), (ad 1, .inl (T 4, 4, qa (stf ad))), (ad 6, .inr (0, [.int (ρ 6 0 + 1), .ref (ad 20), .int (nI (N 0 + 1))])), (ad 20, .inl (T 3, cap (N 0), qa (va_up (liF ad (fun i => 2 + mst i) (N 0)) (N 0) (some (ad (2 + j)))))), (ad (2 + j), .inr (5, [.int (ρ (2 + j) 0), .int (ρ (2 + j) 1), .int (ρ (2 + j) 2)]))] = iw [0, 1, 6, 20, 2 + j] ad (hG (aM ad (ad 20)) T ea f' (Nm N) (mM N mst j) bst (rM ρ)) ++ [] := fun f' => by
        rw [iw_cons, iw_cons, iw_cons, iw_cons, iw_cons, iw_nil, g9 _ f' 0 (Or.inl (by decide)) (by decide) (by decide), g9 _ f' 1 (Or.inl (by decide)) (by decide) (by decide), r6, r20, g5, cap_succ hcp]
        rfl
      rw [← e1] at hw
      refine hcB (lw := lw) (rm := lkR (zrm 2 44) 4 0 0) (mc := 0) (ms := 0) (S1 := Unit) (js := [0, 1, 6, 20, 2 + j]) (G' := fun _ => hG (aM ad (ad 20)) T ea nof (Nm N) (mM N mst j) bst (rM ρ)) (tl := fun _ => []) hI.1 ?_ (fun k hk => by simp only [List.mem_cons, List.not_mem_nil, or_false] at hk; unfold liv; omega) ?_ ⟨Nat.le_of_ble_eq_true rfl, Nat.le_of_ble_eq_true rfl, Nat.le_of_ble_eq_true rfl, Nat.le_of_ble_eq_true rfl⟩ ⟨by decide, by decide⟩ (fun u k hk hn => g9 _ _ k ((hmm k).mp hk) (fun e => hn (by rw [e]; simp)) (fun e => hn (by rw [e]; simp))) (fun u => ⟨⟨J, aM ad (ad 20), Nm N, mM N mst j, bst, rM ρ⟩, ⟨[], ?_⟩, (show (aM ad (ad 20)) 0 = ad 0 from aM_o (by decide)), rfl, melt_inv hj hI h4 hJ hJm⟩)
      · simp only [List.nodup_cons, List.mem_cons, List.not_mem_nil, or_false, List.nodup_nil, and_true, not_false_eq_true]
        omega
      · have e4 : (fun _ : Unit => (iw [0, 1, 6, 20, 2 + j] ad (hG (aM ad (ad 20)) T ea nof (Nm N) (mM N mst j) bst (rM ρ)) ++ [])) = fun _ => [(ad 0, (Sum.inr (6, hsF ad (ρ 0 0)) : va_E)), (ad 1, .inl (T 4, 4, qa (stf ad))), (ad 6, .inr (0, [.int (ρ 6 0 + 1), .ref (ad 20), .int (nI (N 0 + 1))])), (ad 20, .inl (T 3, cap (N 0), qa (va_up (liF ad (fun i => 2 + mst i) (N 0)) (N 0) (some (ad (2 + j)))))), (ad (2 + j), .inr (5, [.int (ρ (2 + j) 0), .int (ρ (2 + j) 1), .int (ρ (2 + j) 2)]))] := funext (fun _ => by rw [e2 nof])
        rw [e4]
        exact hw
      · rw [List.append_nil, List.append_nil]
        have e : aM ad (ad 20) = ad := funext (fun _ => aM_s)
        rw [e]
    · have hfull : cap (N 0) = N 0 := by omega
      have hcs : cap (N 0 + 1) = N 0 + N 0 / 2 ∧ 2 ≤ N 0 := by
        have hh := hfull
        unfold cap at hh ⊢
        by_cases a1 : N 0 ≤ 10
        · rw [if_pos a1] at hh
          rw [if_neg (by omega), if_pos (by omega)]
          omega
        · rw [if_neg a1] at hh
          by_cases a2 : N 0 ≤ 15
          · rw [if_pos a2] at hh
            rw [if_neg (by omega), if_neg (by omega)]
            omega
          · rw [if_neg a2] at hh
            omega
      have hes : ∀ s, s < 4 → (iw [2, 3, 4, 5] ad (hG ad T ea nof N mst bst ρ))[s]? = some (ad (2 + s), .inr (5, [.int (ρ (2 + s) 0), .int (ρ (2 + s) 1), .int (ρ (2 + s) 2)])) := fun s hs => by
        rw [← hG_s (ad := ad) (T := T) (ea := ea) (f := nof) (N := N) (mst := mst) (bst := bst) (ρ := ρ) hs]
        refine iw_get ?_
        have e : s = 0 ∨ s = 1 ∨ s = 2 ∨ s = 3 := by omega
        rcases e with rfl | rfl | rfl | rfl <;> rfl
      have hM : ZIH l yX5_melt wsX5_melt (zrmc 7 201 1 (N 0 + N 0 / 2)) (zW ea mi sa) D T (S := Nat) ((ad 0, .inr (6, hsF ad (ρ 0 0))) :: ([(ad 1, .inl (T 4, 4, qa (stf ad))), (ad 20, .inl (T 3, N 0, qa (liF ad (fun i => 2 + mst i) (N 0)))), (ad 6, .inr (0, [.int (ρ 6 0), .ref (ad 20), .int (nI (N 0))]))] ++ iw [2, 3, 4, 5] ad (hG ad T ea nof N mst bst ρ))) (fun u => (ad 0, .inr (6, hsF ad (ρ 0 0))) :: (([(ad 1, .inl (T 4, 4, qa (stf ad))), (ad 20, .inl (T 3, N 0, qa (liF ad (fun i => 2 + mst i) (N 0)))), (ad 6, .inr (0, [.int (ρ 6 0 + 1), .ref u, .int (nI (N 0 + 1))]))] ++ iw [2, 3, 4, 5] ad (hG ad T ea nof N mst bst ρ)) ++ [(u, .inl (T 3, (N 0 + N 0 / 2), qa (va_up (va_cpy (liF ad (fun i => 2 + mst i) (N 0)) (fun _ => none) 0 0 (N 0)) (N 0) (some (ad (2 + j))))))])) [.ref (ad 0), .int (nI j)] (nI (N 0)) 1 (N 0 + N 0 / 2) :=
        ch_melt_f l D T ea mi sa (ad 0) ad (ρ 0 0) (stf ad) (ad (2 + j)) j hj (stf_at ad hj) (ρ 6 0) (ad 20) (N 0) (liF ad (fun i => 2 + mst i) (N 0)) (iw [2, 3, 4, 5] ad (hG ad T ea nof N mst bst ρ)) j _ h4 hcs.2 (hes j hj) (fun i y hi hy => by
          rw [liF_at hi] at hy
          have hy2 := Option.some.inj hy
          exact ⟨mst i, _, by rw [← hy2]; exact hes (mst i) (hm4 i hi)⟩)
      have hw := lk_melt l D T ea mi sa _ (nI j) hM ⟨rfl, rfl⟩ (fun u k hk => List.getElem?_append_left (l₁ := [ad 0, ad 1, ad 20, ad 6, ad 2, ad 3, ad 4, ad 5]) (l₂ := [u]) hk) (fun _ => Nat.le_of_ble_eq_true rfl)
      rw [cpy_liF, ← hcs.1] at hw
      have e1 : iw [0, 1, 20, 6, 2, 3, 4, 5] ad (hG ad T ea nof N mst bst ρ) = (ad 0, .inr (6, hsF ad (ρ 0 0))) :: ([(ad 1, .inl (T 4, 4, qa (stf ad))), (ad 20, .inl (T 3, N 0, qa (liF ad (fun i => 2 + mst i) (N 0)))), (ad 6, .inr (0, [.int (ρ 6 0), .ref (ad 20), .int (nI (N 0))]))] ++ iw [2, 3, 4, 5] ad (hG ad T ea nof N mst bst ρ)) := by
        have e9 : hG ad T ea nof N mst bst ρ 20 = .inl (T 3, N 0, qa (liF ad (fun i => 2 + mst i) (N 0))) := by
          show (Sum.inl (T 3, cap (N 0), qa (liF ad (fun i => 2 + mst i) (N 0))) : va_E) = _
          rw [hfull]
        rw [iw_cons, iw_cons, iw_cons, iw_cons, hG_6 hp, e9]
        rfl
      obtain ⟨G9, hG9⟩ : ∃ G9 : Nat → Nat → va_E, G9 = fun u => hG (aM ad u) T ea nof (Nm N) (mM N mst j) bst (rM ρ) := ⟨_, rfl⟩
      obtain ⟨G', hG'⟩ : ∃ G' : Nat → Nat → va_E, G' = fun u k => if k = 20 then .inl (T 3, N 0, qa (liF ad (fun i => 2 + mst i) (N 0))) else G9 u k := ⟨_, rfl⟩
      have q20 : ∀ u, G' u 20 = .inl (T 3, N 0, qa (liF ad (fun i => 2 + mst i) (N 0))) := fun u => by rw [hG']; exact if_pos rfl
      have qo : ∀ u k, k ≠ 20 → G' u k = G9 u k := fun u k hk => by rw [hG']; exact if_neg hk
      have qk : ∀ u k, liv N k → k ≠ 6 → k ≠ 20 → G' u k = hG ad T ea nof N mst bst ρ k := fun u k hl h6 h20 => by rw [qo u k h20, hG9]; exact g9 u _ k hl h6 h20
      have q6 : ∀ u, G' u 6 = .inr (0, [.int (ρ 6 0 + 1), .ref u, .int (nI (N 0 + 1))]) := fun u => by rw [qo u 6 (by decide), hG9]; exact r6 u _
      have q9 : ∀ u, G9 u 20 = .inl (T 3, cap (N 0 + 1), qa (va_up (liF ad (fun i => 2 + mst i) (N 0)) (N 0) (some (ad (2 + j))))) := fun u => by rw [hG9]; exact r20 u _
      have e2 : ∀ u : Nat, (ad 0, (Sum.inr (6, hsF ad (ρ 0 0)) : va_E)) :: (([(ad 1, .inl (T 4, 4, qa (stf ad))), (ad 20, .inl (T 3, N 0, qa (liF ad (fun i => 2 + mst i) (N 0)))), (ad 6, .inr (0, [.int (ρ 6 0 + 1), .ref u, .int (nI (N 0 + 1))]))] ++ iw [2, 3, 4, 5] ad (hG ad T ea nof N mst bst ρ)) ++ [(u, .inl (T 3, cap (N 0 + 1), qa (va_up (liF ad (fun i => 2 + mst i) (N 0)) (N 0) (some (ad (2 + j))))))]) = iw [0, 1, 20, 6, 2, 3, 4, 5] ad (G' u) ++ [(u, G9 u 20)] := fun u => by
        have e5 : iw [2, 3, 4, 5] ad (G' u) = iw [2, 3, 4, 5] ad (hG ad T ea nof N mst bst ρ) := by
          unfold iw
          refine List.map_congr_left (fun k hk => ?_)
          simp only [List.mem_cons, List.not_mem_nil, or_false] at hk
          rw [qk u k (Or.inl (by omega)) (by omega) (by omega)]
        show _ = (ad 0, G' u 0) :: (ad 1, G' u 1) :: (ad 20, G' u 20) :: (ad 6, G' u 6) :: (iw [2, 3, 4, 5] ad (G' u) ++ [(u, G9 u 20)])
        rw [e5, qk u 0 (Or.inl (by decide)) (by decide) (by decide), qk u 1 (Or.inl (by decide)) (by decide) (by decide), q20, q6, q9]
        rfl
      rw [← e1] at hw
      have hms : cap (N 0 + 1) + 0 ≤ 70 := by
        rw [hcs.1]
        omega
      have hms : cap (N 0 + 1) ≤ 70 := hms
      refine hcB (lw := lw) (rm := lkR (zrmc 7 201 1 (cap (N 0 + 1))) 4 1 (cap (N 0 + 1))) (mc := 1) (ms := cap (N 0 + 1)) (S1 := Nat) (js := [0, 1, 20, 6, 2, 3, 4, 5]) (G' := G') (tl := fun u => [(u, G9 u 20)]) hI.1 (by decide) (fun k hk => by simp only [List.mem_cons, List.not_mem_nil, or_false] at hk; unfold liv; omega) ?_ ⟨Nat.le_of_ble_eq_true rfl, Nat.le_of_ble_eq_true rfl, Nat.le_of_ble_eq_true rfl, hms⟩ ⟨by decide, hms⟩ (fun u k hk hn => qk u k ((hmm k).mp hk) (fun e => hn (by rw [e]; simp)) (fun e => hn (by rw [e]; simp))) (fun u => ⟨⟨J, aM ad u, Nm N, mM N mst j, bst, rM ρ⟩, ?_, (show (aM ad u) 0 = ad 0 from aM_o (by decide)), rfl, melt_inv hj hI h4 hJ hJm⟩)
      · have e4 : (fun u : Nat => (iw [0, 1, 20, 6, 2, 3, 4, 5] ad (G' u) ++ [(u, G9 u 20)])) = fun u => ((ad 0, (Sum.inr (6, hsF ad (ρ 0 0)) : va_E)) :: (([(ad 1, .inl (T 4, 4, qa (stf ad))), (ad 20, .inl (T 3, N 0, qa (liF ad (fun i => 2 + mst i) (N 0)))), (ad 6, .inr (0, [.int (ρ 6 0 + 1), .ref u, .int (nI (N 0 + 1))]))] ++ iw [2, 3, 4, 5] ad (hG ad T ea nof N mst bst ρ)) ++ [(u, .inl (T 3, cap (N 0 + 1), qa (va_up (liF ad (fun i => 2 + mst i) (N 0)) (N 0) (some (ad (2 + j))))))])) := funext (fun u => by rw [e2 u])
        rw [e4]
        exact hw
      · have pp := perm_swap (K := []) (ad := ad) (ad' := aM ad u) (G := G' u) (G9 := G9 u) (tl := [(u, G9 u 20)]) hJ ((hmm 20).mpr (Or.inr (Or.inl ⟨rfl, hp⟩))) (fun k hk hne => ⟨aM_o hne, (qo u k hne).symm⟩) (by rw [iw_nil, List.nil_append, aM_20])
        rw [List.append_nil] at pp
        rw [hG9] at pp ⊢
        exact pp
theorem hc_billet (hI : Inv C J N mst bst ρ a c) {mo nw : Nat} (hmo : mo < N 0) (hw1 : 2 ≤ nw) (hw2 : nw ≤ 61) (h4 : N 1 < 12) (lw : va_W) : ZIH l yL_billet wsL_billet hR9 (zX ea mi sa) D T (S := {X : PS // X.ad 0 = ad 0 ∧ X.N = Nb N ∧ X.ρ (100 + 3 * N 1) 13 = 240 ∧ Inv C X.J X.N X.mst X.bst X.ρ (upd a (N 1) (nI nw)) c}) (lw ++ iw J ad (hG ad T ea nof N mst bst ρ)) (fun X => lw ++ cW T ea X.1) [.ref (ad 0), .int (nI mo), .int (nI nw)] (nI (N 1)) 5 70 := by
  have hJ := hI.1.1
  have hmm := hI.1.2.1
  have hn0 := hI.1.2.2.1
  have hn1 := hI.1.2.2.2.1
  have hn2 := hI.1.2.2.2.2
  have hp0 : 0 < N 0 := by omega
  have ms4 : mst mo < 4 := hI.2.2.1 mo hmo
  have d1 := (cap_le (g := N 0) (by omega)).1
  have d2 := (cap_le (g := N 0) (by omega)).2
  obtain ⟨w, hnw⟩ : ∃ w, w = nI nw := ⟨_, rfl⟩
  rw [← hnw]
  have k1 : ¬ w < 2 := fun q => absurd ((nI_ltI (b := 2) (by omega) (by decide)).mp (hnw ▸ q)) (by omega)
  have k2 : w ≤ 200 := hnw ▸ (nI_leI (b := 200) (by omega) (by decide)).mpr (by omega)
  have hbb : ∀ i, i < N 1 → bB N bst (mst mo) i = bst i ∧ bst i < 4 := fun i hi => ⟨bB_o (by omega), I_b4 hI hi⟩
  have hmm4 : ∀ i, i < N 0 → mst i = mst i ∧ mst i < 4 := fun i hi => ⟨rfl, hI.2.2.1 i hi⟩
  by_cases h0 : N 1 = 0
  · rw [show nI (N 1) = 0 from (congrArg nI h0).trans nI_0]
    have hw := lk_billet l D T ea mi sa _ (nI mo) w (ch_billet_e l D T ea mi sa (ad 0) ad (ρ 0 0) (ρ 6 0) (ad 20) (cap (N 0)) (N 0) (liF ad (fun i => 2 + mst i) (N 0)) (ad (2 + mst mo)) mo w hmo d1 d2 (liF_at hmo) k1 k2 (ρ (2 + mst mo)) (ρ 7 0)) ⟨rfl, rfl⟩ (fun u k hk => List.getElem?_append_left (l₁ := [ad 0, ad 6, ad 20, ad (2 + mst mo), ad 7]) (l₂ := [u.1, u.2.1, u.2.2.1, u.2.2.2]) hk) (fun _ => Nat.le_of_ble_eq_true rfl)
    have e1 : iw [0, 6, 20, 2 + mst mo, 7] ad (hG ad T ea nof N mst bst ρ) = [(ad 0, (Sum.inr (6, hsF ad (ρ 0 0)) : va_E)), (ad 6, .inr (0, [.int (ρ 6 0), .ref (ad 20), .int (nI (N 0))])), (ad 20, .inl (T 3, cap (N 0), qa (liF ad (fun i => 2 + mst i) (N 0)))), (ad (2 + mst mo), .inr (5, [.int (ρ (2 + mst mo) 0), .int (ρ (2 + mst mo) 1), .int (ρ (2 + mst mo) 2)])), (ad 7, .inr (0, [.int (ρ 7 0), .ref ea, .int 0]))] := by
      have e7 : hG ad T ea nof N mst bst ρ 7 = .inr (0, [.int (ρ 7 0), .ref ea, .int 0]) := by
        show (Sum.inr (0, [Value.int (ρ 7 0), Value.ref (if N 1 = 0 then ea else ad 21), Value.int (nI (N 1))]) : va_E) = _
        rw [if_pos h0, h0, nI_0]
      rw [iw_cons, iw_cons, iw_cons, iw_cons, iw_cons, iw_nil, hG_6 hp0, hG_s ms4, e7]
      rfl
    have g9 : ∀ (u : Nat × Nat × Nat × Nat) (f9 : Nat → Int64) (k : Nat), liv N k → k ≠ 7 → k ≠ 21 → hG (aB ad N u.1 u.2.1 u.2.2.1 u.2.2.2) T ea f9 (Nb N) mst (bB N bst (mst mo)) (rB N ρ mo w) k = hG ad T ea nof N mst bst ρ k := fun u f9 k hl h7 h21 => by
      have hne : k ≠ 100 + 3 * N 1 ∧ k ≠ 101 + 3 * N 1 ∧ k ≠ 102 + 3 * N 1 := by
        unfold liv at hl
        omega
      exact hG_new hl (fun k hk => aB_o (by omega) (by omega) (by omega) (by omega)) (fun k k1 k2 => aB_o (by omega) (by omega) (by omega) (by omega)) (fun k k1 k2 => aB_o (by omega) (by omega) (by omega) (by omega)) hbb hn1 hn2 (rB_o h7 hne.1 hne.2.1 hne.2.2) (fun _ => ⟨rfl, aB_o (by omega) (by omega) (by omega) (by omega), hmm4⟩) (fun h => absurd h (by omega)) (fun _ => ⟨rfl, aB_o (by omega) (by omega) (by omega) (by omega)⟩)
    have e2 : ∀ (u : Nat × Nat × Nat × Nat) (f9 : Nat → Int64), [(ad 0, (Sum.inr (6, hsF ad (ρ 0 0)) : va_E)), (ad 6, .inr (0, [.int (ρ 6 0), .ref (ad 20), .int (nI (N 0))])), (ad 20, .inl (T 3, cap (N 0), qa (liF ad (fun i => 2 + mst i) (N 0)))), (ad (2 + mst mo), .inr (5, [.int (ρ (2 + mst mo) 0), .int (ρ (2 + mst mo) 1), .int (ρ (2 + mst mo) 2)])), (ad 7, .inr (0, [.int (ρ 7 0 + 1), .ref u.2.2.2, .int 1])), (u.1, .inr (1, biF u.2.1 u.2.2.1 (ad (2 + mst mo)) (nwB mo w))), (u.2.1, .inl (T 0, 8, .inl (fi0 (fun _ => 0) w 8))), (u.2.2.1, .inl (T 0, 8, .inl (fun _ => 0))), (u.2.2.2, .inl (T 3, 10, qa (va_up (fun _ => none) 0 (some u.1))))] = iw [0, 6, 20, 2 + mst mo, 7] ad (hG (aB ad N u.1 u.2.1 u.2.2.1 u.2.2.2) T ea f9 (Nb N) mst (bB N bst (mst mo)) (rB N ρ mo w)) ++ iw [100 + 3 * N 1, 101 + 3 * N 1, 102 + 3 * N 1, 21] (aB ad N u.1 u.2.1 u.2.2.1 u.2.2.2) (hG (aB ad N u.1 u.2.1 u.2.2.1 u.2.2.2) T ea f9 (Nb N) mst (bB N bst (mst mo)) (rB N ρ mo w)) := fun u f9 => by
      have r7 : hG (aB ad N u.1 u.2.1 u.2.2.1 u.2.2.2) T ea f9 (Nb N) mst (bB N bst (mst mo)) (rB N ρ mo w) 7 = .inr (0, [.int (ρ 7 0 + 1), .ref u.2.2.2, .int 1]) := by
        rw [hG_7 (show 0 < Nb N 1 from Nat.succ_pos _), aB_21, rB_7, show Nb N 1 = N 1 + 1 from rfl, h0]
        rfl
      have r21 : hG (aB ad N u.1 u.2.1 u.2.2.1 u.2.2.2) T ea f9 (Nb N) mst (bB N bst (mst mo)) (rB N ρ mo w) 21 = .inl (T 3, 10, qa (va_up (fun _ => none) 0 (some u.1))) := by
        rw [liF_0 (ad' := aB ad N u.1 u.2.1 u.2.2.1 u.2.2.2) (ix' := fun i => 100 + 3 * i) (a := u.1) (by rw [← h0]; exact aB_b)]
        show (Sum.inl (T 3, cap (Nb N 1), qa (liF (aB ad N u.1 u.2.1 u.2.2.1 u.2.2.2) (fun i => 100 + 3 * i) (Nb N 1))) : va_E) = _
        rw [show Nb N 1 = N 1 + 1 from rfl, h0]
        rfl
      have rb : hG (aB ad N u.1 u.2.1 u.2.2.1 u.2.2.2) T ea f9 (Nb N) mst (bB N bst (mst mo)) (rB N ρ mo w) (100 + 3 * N 1) = .inr (1, biF u.2.1 u.2.2.1 (ad (2 + mst mo)) (nwB mo w)) := by
        rw [hG_b h4, aB_a, aB_q, bB_n, rB_b, (show aB ad N u.1 u.2.1 u.2.2.1 u.2.2.2 (2 + mst mo) = ad (2 + mst mo) from aB_o (by omega) (by omega) (by omega) (by omega))]
      have ra : hG (aB ad N u.1 u.2.1 u.2.2.1 u.2.2.2) T ea f9 (Nb N) mst (bB N bst (mst mo)) (rB N ρ mo w) (101 + 3 * N 1) = .inl (T 0, 8, .inl (fi0 (fun _ => 0) w 8)) := by
        rw [hG_a h4, rB_a]
      have rq : hG (aB ad N u.1 u.2.1 u.2.2.1 u.2.2.2) T ea f9 (Nb N) mst (bB N bst (mst mo)) (rB N ρ mo w) (102 + 3 * N 1) = .inl (T 0, 8, .inl (fun _ => 0)) := by
        rw [hG_q h4, rB_q]
      have b0 := g9 u f9 0 (Or.inl (by decide)) (by decide) (by decide)
      have b6 := (g9 u f9 6 (Or.inl (by decide)) (by decide) (by decide)).trans (hG_6 hp0)
      have b20 := g9 u f9 20 (Or.inr (Or.inl ⟨rfl, hp0⟩)) (by decide) (by decide)
      have bs := (g9 u f9 (2 + mst mo) (Or.inl (by omega)) (by omega) (by omega)).trans (hG_s ms4)
      generalize hG (aB ad N u.1 u.2.1 u.2.2.1 u.2.2.2) T ea f9 (Nb N) mst (bB N bst (mst mo)) (rB N ρ mo w) = GG at *
      rw [iw_cons, iw_cons, iw_cons, iw_cons, iw_cons, iw_nil, iw_cons, iw_cons, iw_cons, iw_cons, iw_nil, b0, b6, b20, bs, r7, r21, rb, ra, rq, aB_b, aB_a, aB_q, aB_21]
      rfl
    rw [← e1] at hw
    refine hcB (lw := lw) (rm := lkR (zrmc 5 151 4 44) 4 4 44) (mc := 4) (ms := 44) (S1 := Nat × Nat × Nat × Nat) (js := [0, 6, 20, 2 + mst mo, 7]) (G' := fun u => hG (aB ad N u.1 u.2.1 u.2.2.1 u.2.2.2) T ea nof (Nb N) mst (bB N bst (mst mo)) (rB N ρ mo w)) (tl := fun u => iw [100 + 3 * N 1, 101 + 3 * N 1, 102 + 3 * N 1, 21] (aB ad N u.1 u.2.1 u.2.2.1 u.2.2.2) (hG (aB ad N u.1 u.2.1 u.2.2.1 u.2.2.2) T ea nof (Nb N) mst (bB N bst (mst mo)) (rB N ρ mo w))) hI.1 ?_ (fun k hk => by simp only [List.mem_cons, List.not_mem_nil, or_false] at hk; unfold liv; omega) ?_ ⟨Nat.le_of_ble_eq_true rfl, Nat.le_of_ble_eq_true rfl, Nat.le_of_ble_eq_true rfl, Nat.le_of_ble_eq_true rfl⟩ ⟨by decide, by decide⟩ (fun u k hk hn => g9 u _ k ((hmm k).mp hk) (fun e => hn (by rw [e]; simp)) (fun e => by have := (hmm k).mp hk; unfold liv at this; omega)) (fun u => ⟨⟨J ++ [100 + 3 * N 1, 101 + 3 * N 1, 102 + 3 * N 1, 21], aB ad N u.1 u.2.1 u.2.2.1 u.2.2.2, Nb N, mst, bB N bst (mst mo), rB N ρ mo w⟩, perm_new (fun k hk => ?_) (List.Perm.refl _), aB_o (by omega) (by omega) (by omega) (by omega), rfl, (by show rB N ρ mo w (100 + 3 * N 1) 13 = 240; rw [rB_b]; rfl), billet_inv hmo hnw hw1 hw2 hI h4 ?_ (fun k => ?_)⟩)
    · simp only [List.nodup_cons, List.mem_cons, List.not_mem_nil, or_false, List.nodup_nil, and_true, not_false_eq_true]
      omega
    · have e4 : (fun u : Nat × Nat × Nat × Nat => (iw [0, 6, 20, 2 + mst mo, 7] ad (hG (aB ad N u.1 u.2.1 u.2.2.1 u.2.2.2) T ea nof (Nb N) mst (bB N bst (mst mo)) (rB N ρ mo w)) ++ iw [100 + 3 * N 1, 101 + 3 * N 1, 102 + 3 * N 1, 21] (aB ad N u.1 u.2.1 u.2.2.1 u.2.2.2) (hG (aB ad N u.1 u.2.1 u.2.2.1 u.2.2.2) T ea nof (Nb N) mst (bB N bst (mst mo)) (rB N ρ mo w)))) = fun u => [(ad 0, (Sum.inr (6, hsF ad (ρ 0 0)) : va_E)), (ad 6, .inr (0, [.int (ρ 6 0), .ref (ad 20), .int (nI (N 0))])), (ad 20, .inl (T 3, cap (N 0), qa (liF ad (fun i => 2 + mst i) (N 0)))), (ad (2 + mst mo), .inr (5, [.int (ρ (2 + mst mo) 0), .int (ρ (2 + mst mo) 1), .int (ρ (2 + mst mo) 2)])), (ad 7, .inr (0, [.int (ρ 7 0 + 1), .ref u.2.2.2, .int 1])), (u.1, .inr (1, biF u.2.1 u.2.2.1 (ad (2 + mst mo)) (nwB mo w))), (u.2.1, .inl (T 0, 8, .inl (fi0 (fun _ => 0) w 8))), (u.2.2.1, .inl (T 0, 8, .inl (fun _ => 0))), (u.2.2.2, .inl (T 3, 10, qa (va_up (fun _ => none) 0 (some u.1))))] := funext (fun u => by rw [e2 u nof])
      rw [e4]
      exact hw
    · have hl := (hmm k).mp hk
      have hne : k ≠ 100 + 3 * N 1 ∧ k ≠ 101 + 3 * N 1 ∧ k ≠ 102 + 3 * N 1 ∧ k ≠ 21 := by
        unfold liv at hl
        omega
      exact aB_o hne.1 hne.2.1 hne.2.2.1 hne.2.2.2
    · refine List.nodup_append.mpr ⟨hJ, ?_, fun a ha b hb e => ?_⟩
      · simp only [List.nodup_cons, List.mem_cons, List.not_mem_nil, or_false, List.nodup_nil, and_true, not_false_eq_true]
        omega
      · have hl := (hmm a).mp ha
        simp only [List.mem_cons, List.not_mem_nil, or_false] at hb
        unfold liv at hl
        omega
    · rw [List.mem_append, Nb_liv, hmm k]
      simp only [List.mem_cons, List.not_mem_nil, or_false]
      unfold liv
      omega

  · have hp : 0 < N 1 := Nat.pos_of_ne_zero h0
    have hc9 := cap_le (g := N 1) (by omega)
    by_cases hcp : N 1 < cap (N 1)
    · have hw := lk_billet l D T ea mi sa _ (nI mo) w (ch_billet_r l D T ea mi sa (ad 0) ad (ρ 0 0) (ρ 6 0) (ad 20) (cap (N 0)) (N 0) (liF ad (fun i => 2 + mst i) (N 0)) (ad (2 + mst mo)) mo w hmo d1 d2 (liF_at hmo) k1 k2 (ρ (2 + mst mo)) (ρ 7 0) (ad 21) (cap (N 1)) (N 1) (liF ad (fun i => 100 + 3 * i) (N 1)) h4 hcp hc9.2) ⟨rfl, rfl⟩ (fun u k hk => List.getElem?_append_left (l₁ := [ad 0, ad 6, ad 20, ad (2 + mst mo), ad 7, ad 21]) (l₂ := [u.1, u.2.1, u.2.2]) hk) (fun _ => Nat.le_of_ble_eq_true rfl)
      have e1 : iw [0, 6, 20, 2 + mst mo, 7, 21] ad (hG ad T ea nof N mst bst ρ) = [(ad 0, (Sum.inr (6, hsF ad (ρ 0 0)) : va_E)), (ad 6, .inr (0, [.int (ρ 6 0), .ref (ad 20), .int (nI (N 0))])), (ad 20, .inl (T 3, cap (N 0), qa (liF ad (fun i => 2 + mst i) (N 0)))), (ad (2 + mst mo), .inr (5, [.int (ρ (2 + mst mo) 0), .int (ρ (2 + mst mo) 1), .int (ρ (2 + mst mo) 2)])), (ad 7, .inr (0, [.int (ρ 7 0), .ref (ad 21), .int (nI (N 1))])), (ad 21, .inl (T 3, cap (N 1), qa (liF ad (fun i => 100 + 3 * i) (N 1))))] := by
        rw [iw_cons, iw_cons, iw_cons, iw_cons, iw_cons, iw_cons, iw_nil, hG_6 hp0, hG_s ms4, hG_7 hp]
        rfl
      have g9 : ∀ (u : Nat × Nat × Nat) (f9 : Nat → Int64) (k : Nat), liv N k → k ≠ 7 → k ≠ 21 → hG (aB ad N u.1 u.2.1 u.2.2 (ad 21)) T ea f9 (Nb N) mst (bB N bst (mst mo)) (rB N ρ mo w) k = hG ad T ea nof N mst bst ρ k := fun u f9 k hl h7 h21 => by
        have hne : k ≠ 100 + 3 * N 1 ∧ k ≠ 101 + 3 * N 1 ∧ k ≠ 102 + 3 * N 1 := by
          unfold liv at hl
          omega
        exact hG_new hl (fun k hk => aB_s (by omega) (by omega) (by omega)) (fun k k1 k2 => aB_s (by omega) (by omega) (by omega)) (fun k k1 k2 => aB_s (by omega) (by omega) (by omega)) hbb hn1 hn2 (rB_o h7 hne.1 hne.2.1 hne.2.2) (fun _ => ⟨rfl, aB_s (by omega) (by omega) (by omega), hmm4⟩) (fun h => absurd h (by omega)) (fun _ => ⟨rfl, aB_s (by omega) (by omega) (by omega)⟩)
      have e2 : ∀ (u : Nat × Nat × Nat) (f9 : Nat → Int64), [(ad 0, (Sum.inr (6, hsF ad (ρ 0 0)) : va_E)), (ad 6, .inr (0, [.int (ρ 6 0), .ref (ad 20), .int (nI (N 0))])), (ad 20, .inl (T 3, cap (N 0), qa (liF ad (fun i => 2 + mst i) (N 0)))), (ad (2 + mst mo), .inr (5, [.int (ρ (2 + mst mo) 0), .int (ρ (2 + mst mo) 1), .int (ρ (2 + mst mo) 2)])), (ad 7, .inr (0, [.int (ρ 7 0 + 1), .ref (ad 21), .int (nI (N 1 + 1))])), (ad 21, .inl (T 3, cap (N 1), qa (va_up (liF ad (fun i => 100 + 3 * i) (N 1)) (N 1) (some u.1)))), (u.1, .inr (1, biF u.2.1 u.2.2 (ad (2 + mst mo)) (nwB mo w))), (u.2.1, .inl (T 0, 8, .inl (fi0 (fun _ => 0) w 8))), (u.2.2, .inl (T 0, 8, .inl (fun _ => 0)))] = iw [0, 6, 20, 2 + mst mo, 7, 21] ad (hG (aB ad N u.1 u.2.1 u.2.2 (ad 21)) T ea f9 (Nb N) mst (bB N bst (mst mo)) (rB N ρ mo w)) ++ iw [100 + 3 * N 1, 101 + 3 * N 1, 102 + 3 * N 1] (aB ad N u.1 u.2.1 u.2.2 (ad 21)) (hG (aB ad N u.1 u.2.1 u.2.2 (ad 21)) T ea f9 (Nb N) mst (bB N bst (mst mo)) (rB N ρ mo w)) := fun u f9 => by
        have r7 : hG (aB ad N u.1 u.2.1 u.2.2 (ad 21)) T ea f9 (Nb N) mst (bB N bst (mst mo)) (rB N ρ mo w) 7 = .inr (0, [.int (ρ 7 0 + 1), .ref (ad 21), .int (nI (N 1 + 1))]) := by
          rw [hG_7 (show 0 < Nb N 1 from Nat.succ_pos _), aB_21, rB_7, show Nb N 1 = N 1 + 1 from rfl]
        have r21 : hG (aB ad N u.1 u.2.1 u.2.2 (ad 21)) T ea f9 (Nb N) mst (bB N bst (mst mo)) (rB N ρ mo w) 21 = .inl (T 3, cap (N 1), qa (va_up (liF ad (fun i => 100 + 3 * i) (N 1)) (N 1) (some u.1))) := by
          rw [liF_up (ad' := aB ad N u.1 u.2.1 u.2.2 (ad 21)) (ix' := fun i => 100 + 3 * i) (a := u.1) (fun i hi => aB_s (by omega) (by omega) (by omega)) aB_b, ← cap_succ hcp]
          rfl
        have rb : hG (aB ad N u.1 u.2.1 u.2.2 (ad 21)) T ea f9 (Nb N) mst (bB N bst (mst mo)) (rB N ρ mo w) (100 + 3 * N 1) = .inr (1, biF u.2.1 u.2.2 (ad (2 + mst mo)) (nwB mo w)) := by
          rw [hG_b h4, aB_a, aB_q, bB_n, rB_b, (show aB ad N u.1 u.2.1 u.2.2 (ad 21) (2 + mst mo) = ad (2 + mst mo) from aB_s (by omega) (by omega) (by omega))]
        have ra : hG (aB ad N u.1 u.2.1 u.2.2 (ad 21)) T ea f9 (Nb N) mst (bB N bst (mst mo)) (rB N ρ mo w) (101 + 3 * N 1) = .inl (T 0, 8, .inl (fi0 (fun _ => 0) w 8)) := by
          rw [hG_a h4, rB_a]
        have rq : hG (aB ad N u.1 u.2.1 u.2.2 (ad 21)) T ea f9 (Nb N) mst (bB N bst (mst mo)) (rB N ρ mo w) (102 + 3 * N 1) = .inl (T 0, 8, .inl (fun _ => 0)) := by
          rw [hG_q h4, rB_q]
        have b0 := g9 u f9 0 (Or.inl (by decide)) (by decide) (by decide)
        have b6 := (g9 u f9 6 (Or.inl (by decide)) (by decide) (by decide)).trans (hG_6 hp0)
        have b20 := g9 u f9 20 (Or.inr (Or.inl ⟨rfl, hp0⟩)) (by decide) (by decide)
        have bs := (g9 u f9 (2 + mst mo) (Or.inl (by omega)) (by omega) (by omega)).trans (hG_s ms4)
        generalize hG (aB ad N u.1 u.2.1 u.2.2 (ad 21)) T ea f9 (Nb N) mst (bB N bst (mst mo)) (rB N ρ mo w) = GG at *
        rw [iw_cons, iw_cons, iw_cons, iw_cons, iw_cons, iw_cons, iw_nil, iw_cons, iw_cons, iw_cons, iw_nil, b0, b6, b20, bs, r7, r21, rb, ra, rq, aB_b, aB_a, aB_q]
        rfl
      rw [← e1] at hw
      refine hcB (lw := lw) (rm := lkR (zrmc 3 64 3 34) 4 3 34) (mc := 3) (ms := 34) (S1 := Nat × Nat × Nat) (js := [0, 6, 20, 2 + mst mo, 7, 21]) (G' := fun u => hG (aB ad N u.1 u.2.1 u.2.2 (ad 21)) T ea nof (Nb N) mst (bB N bst (mst mo)) (rB N ρ mo w)) (tl := fun u => iw [100 + 3 * N 1, 101 + 3 * N 1, 102 + 3 * N 1] (aB ad N u.1 u.2.1 u.2.2 (ad 21)) (hG (aB ad N u.1 u.2.1 u.2.2 (ad 21)) T ea nof (Nb N) mst (bB N bst (mst mo)) (rB N ρ mo w))) hI.1 ?_ (fun k hk => by simp only [List.mem_cons, List.not_mem_nil, or_false] at hk; unfold liv; omega) ?_ ⟨Nat.le_of_ble_eq_true rfl, Nat.le_of_ble_eq_true rfl, Nat.le_of_ble_eq_true rfl, Nat.le_of_ble_eq_true rfl⟩ ⟨by decide, by decide⟩ (fun u k hk hn => g9 u _ k ((hmm k).mp hk) (fun e => hn (by rw [e]; simp)) (fun e => hn (by rw [e]; simp))) (fun u => ⟨⟨J ++ [100 + 3 * N 1, 101 + 3 * N 1, 102 + 3 * N 1], aB ad N u.1 u.2.1 u.2.2 (ad 21), Nb N, mst, bB N bst (mst mo), rB N ρ mo w⟩, perm_new (fun k hk => ?_) (List.Perm.refl _), aB_s (by omega) (by omega) (by omega), rfl, (by show rB N ρ mo w (100 + 3 * N 1) 13 = 240; rw [rB_b]; rfl), billet_inv hmo hnw hw1 hw2 hI h4 ?_ (fun k => ?_)⟩)
      · simp only [List.nodup_cons, List.mem_cons, List.not_mem_nil, or_false, List.nodup_nil, and_true, not_false_eq_true]
        omega
      · have e4 : (fun u : Nat × Nat × Nat => (iw [0, 6, 20, 2 + mst mo, 7, 21] ad (hG (aB ad N u.1 u.2.1 u.2.2 (ad 21)) T ea nof (Nb N) mst (bB N bst (mst mo)) (rB N ρ mo w)) ++ iw [100 + 3 * N 1, 101 + 3 * N 1, 102 + 3 * N 1] (aB ad N u.1 u.2.1 u.2.2 (ad 21)) (hG (aB ad N u.1 u.2.1 u.2.2 (ad 21)) T ea nof (Nb N) mst (bB N bst (mst mo)) (rB N ρ mo w)))) = fun u => [(ad 0, (Sum.inr (6, hsF ad (ρ 0 0)) : va_E)), (ad 6, .inr (0, [.int (ρ 6 0), .ref (ad 20), .int (nI (N 0))])), (ad 20, .inl (T 3, cap (N 0), qa (liF ad (fun i => 2 + mst i) (N 0)))), (ad (2 + mst mo), .inr (5, [.int (ρ (2 + mst mo) 0), .int (ρ (2 + mst mo) 1), .int (ρ (2 + mst mo) 2)])), (ad 7, .inr (0, [.int (ρ 7 0 + 1), .ref (ad 21), .int (nI (N 1 + 1))])), (ad 21, .inl (T 3, cap (N 1), qa (va_up (liF ad (fun i => 100 + 3 * i) (N 1)) (N 1) (some u.1)))), (u.1, .inr (1, biF u.2.1 u.2.2 (ad (2 + mst mo)) (nwB mo w))), (u.2.1, .inl (T 0, 8, .inl (fi0 (fun _ => 0) w 8))), (u.2.2, .inl (T 0, 8, .inl (fun _ => 0)))] := funext (fun u => by rw [e2 u nof])
        rw [e4]
        exact hw
      · have hl := (hmm k).mp hk
        have hne : k ≠ 100 + 3 * N 1 ∧ k ≠ 101 + 3 * N 1 ∧ k ≠ 102 + 3 * N 1 := by
          unfold liv at hl
          omega
        exact aB_s hne.1 hne.2.1 hne.2.2
      · refine List.nodup_append.mpr ⟨hJ, ?_, fun a ha b hb e => ?_⟩
        · simp only [List.nodup_cons, List.mem_cons, List.not_mem_nil, or_false, List.nodup_nil, and_true, not_false_eq_true]
          omega
        · have hl := (hmm a).mp ha
          simp only [List.mem_cons, List.not_mem_nil, or_false] at hb
          unfold liv at hl
          omega
      · rw [List.mem_append, Nb_liv, hmm k]
        simp only [List.mem_cons, List.not_mem_nil, or_false]
        unfold liv
        omega

    · have h10 : N 1 = 10 := by
        have hh : ¬ N 1 < cap (N 1) := hcp
        unfold cap at hh
        by_cases a1 : N 1 ≤ 10
        · rw [if_pos a1] at hh
          omega
        · rw [if_neg a1, if_pos (by omega)] at hh
          omega
      have hfull : cap (N 1) = N 1 := by
        rw [h10]
        rfl
      have hcs : cap (N 1 + 1) = N 1 + N 1 / 2 := by
        rw [h10]
        rfl
      have hes : ∀ i, i < N 1 → (iw [100, 103, 106, 109, 112, 115, 118, 121, 124, 127] ad (hG ad T ea nof N mst bst ρ))[i]? = some (ad (100 + 3 * i), .inr (1, biF (ad (101 + 3 * i)) (ad (102 + 3 * i)) (ad (2 + bst i)) (ρ (100 + 3 * i)))) := fun i hi => by
        rw [← hG_b (ad := ad) (T := T) (ea := ea) (f := nof) (N := N) (mst := mst) (bst := bst) (ρ := ρ) (show i < 12 by omega)]
        have e : ∀ i, i < 10 → ([100, 103, 106, 109, 112, 115, 118, 121, 124, 127] : List Nat)[i]? = some (100 + 3 * i) := by decide
        exact iw_get (e i (by omega))
      have hM : ZIH l yX5_billet wsX5_billet (zrmc 7 201 4 (34 + (N 1 + N 1 / 2))) (zW ea mi sa) D T (S := Nat × Nat × Nat × Nat) ((ad 0, (Sum.inr (6, hsF ad (ρ 0 0)) : va_E)) :: ([(ad 6, .inr (0, [.int (ρ 6 0), .ref (ad 20), .int (nI (N 0))])), (ad 20, .inl (T 3, cap (N 0), qa (liF ad (fun i => 2 + mst i) (N 0)))), (ad (2 + mst mo), .inr (5, [.int (ρ (2 + mst mo) 0), .int (ρ (2 + mst mo) 1), .int (ρ (2 + mst mo) 2)])), (ad 21, .inl (T 3, N 1, qa (liF ad (fun i => 100 + 3 * i) (N 1)))), (ad 7, .inr (0, [.int (ρ 7 0), .ref (ad 21), .int (nI (N 1))]))] ++ iw [100, 103, 106, 109, 112, 115, 118, 121, 124, 127] ad (hG ad T ea nof N mst bst ρ))) (fun u => (ad 0, (Sum.inr (6, hsF ad (ρ 0 0)) : va_E)) :: (([(ad 6, .inr (0, [.int (ρ 6 0), .ref (ad 20), .int (nI (N 0))])), (ad 20, .inl (T 3, cap (N 0), qa (liF ad (fun i => 2 + mst i) (N 0)))), (ad (2 + mst mo), .inr (5, [.int (ρ (2 + mst mo) 0), .int (ρ (2 + mst mo) 1), .int (ρ (2 + mst mo) 2)])), (ad 21, .inl (T 3, N 1, qa (liF ad (fun i => 100 + 3 * i) (N 1)))), (ad 7, .inr (0, [.int (ρ 7 0 + 1), .ref u.2.2.2, .int (nI (N 1 + 1))]))] ++ iw [100, 103, 106, 109, 112, 115, 118, 121, 124, 127] ad (hG ad T ea nof N mst bst ρ)) ++ [(u.1, .inr (1, biF u.2.1 u.2.2.1 (ad (2 + mst mo)) (nwB mo w))), (u.2.1, .inl (T 0, 8, .inl (fi0 (fun _ => 0) w 8))), (u.2.2.1, .inl (T 0, 8, .inl (fun _ => 0))), (u.2.2.2, .inl (T 3, (N 1 + N 1 / 2), qa (va_up (va_cpy (liF ad (fun i => 100 + 3 * i) (N 1)) (fun _ => none) 0 0 (N 1)) (N 1) (some u.1))))])) [.ref (ad 0), .int (nI mo), .int w] (nI (N 1)) 4 (34 + (N 1 + N 1 / 2)) := by
        refine zIH_perm (ch_billet_f l D T ea mi sa (ad 0) ad (ρ 0 0) (ρ 6 0) (ad 20) (cap (N 0)) (N 0) (liF ad (fun i => 2 + mst i) (N 0)) (ad (2 + mst mo)) mo w hmo d1 d2 (liF_at hmo) k1 k2 (ρ (2 + mst mo)) (ρ 7 0) (ad 21) (N 1) (liF ad (fun i => 100 + 3 * i) (N 1)) (iw [100, 103, 106, 109, 112, 115, 118, 121, 124, 127] ad (hG ad T ea nof N mst bst ρ)) h4 (by omega) (fun i y hi hy => by
          rw [liF_at hi] at hy
          have hy2 := Option.some.inj hy
          exact ⟨i, _, by rw [← hy2]; exact hes i hi⟩)) (fun u => ?_)
        refine List.Perm.cons _ (List.Perm.cons _ (List.Perm.cons _ (List.Perm.cons _ (List.Perm.cons _ (List.Perm.cons _ ?_)))))
        exact (List.perm_middle (a := (u.1, .inr (1, biF u.2.1 u.2.2.1 (ad (2 + mst mo)) (nwB mo w)))) (l₁ := iw [100, 103, 106, 109, 112, 115, 118, 121, 124, 127] ad (hG ad T ea nof N mst bst ρ)) (l₂ := [(u.2.1, .inl (T 0, 8, .inl (fi0 (fun _ => 0) w 8))), (u.2.2.1, .inl (T 0, 8, .inl (fun _ => 0))), (u.2.2.2, .inl (T 3, (N 1 + N 1 / 2), qa (va_up (va_cpy (liF ad (fun i => 100 + 3 * i) (N 1)) (fun _ => none) 0 0 (N 1)) (N 1) (some u.1))))])).symm
      have hw := lk_billet l D T ea mi sa _ (nI mo) w hM ⟨rfl, rfl⟩ (fun u k hk => List.getElem?_append_left (l₁ := [ad 0, ad 6, ad 20, ad (2 + mst mo), ad 21, ad 7, ad 100, ad 103, ad 106, ad 109, ad 112, ad 115, ad 118, ad 121, ad 124, ad 127]) (l₂ := [u.1, u.2.1, u.2.2.1, u.2.2.2]) hk) (fun _ => Nat.le_of_ble_eq_true rfl)
      rw [cpy_liF, ← hcs] at hw
      have e9 : hG ad T ea nof N mst bst ρ 21 = .inl (T 3, N 1, qa (liF ad (fun i => 100 + 3 * i) (N 1))) := by
        show (Sum.inl (T 3, cap (N 1), qa (liF ad (fun i => 100 + 3 * i) (N 1))) : va_E) = _
        rw [hfull]
      have e1 : iw [0, 6, 20, 2 + mst mo, 21, 7, 100, 103, 106, 109, 112, 115, 118, 121, 124, 127] ad (hG ad T ea nof N mst bst ρ) = (ad 0, (Sum.inr (6, hsF ad (ρ 0 0)) : va_E)) :: ([(ad 6, .inr (0, [.int (ρ 6 0), .ref (ad 20), .int (nI (N 0))])), (ad 20, .inl (T 3, cap (N 0), qa (liF ad (fun i => 2 + mst i) (N 0)))), (ad (2 + mst mo), .inr (5, [.int (ρ (2 + mst mo) 0), .int (ρ (2 + mst mo) 1), .int (ρ (2 + mst mo) 2)])), (ad 21, .inl (T 3, N 1, qa (liF ad (fun i => 100 + 3 * i) (N 1)))), (ad 7, .inr (0, [.int (ρ 7 0), .ref (ad 21), .int (nI (N 1))]))] ++ iw [100, 103, 106, 109, 112, 115, 118, 121, 124, 127] ad (hG ad T ea nof N mst bst ρ)) := by
        show (ad 0, hG ad T ea nof N mst bst ρ 0) :: (ad 6, hG ad T ea nof N mst bst ρ 6) :: (ad 20, hG ad T ea nof N mst bst ρ 20) :: (ad (2 + mst mo), hG ad T ea nof N mst bst ρ (2 + mst mo)) :: (ad 21, hG ad T ea nof N mst bst ρ 21) :: (ad 7, hG ad T ea nof N mst bst ρ 7) :: (iw [100, 103, 106, 109, 112, 115, 118, 121, 124, 127] ad (hG ad T ea nof N mst bst ρ)) = _
        rw [hG_6 hp0, hG_s ms4, hG_7 hp, e9]
        rfl
      obtain ⟨G9, hG9⟩ : ∃ G9 : (Nat × Nat × Nat × Nat) → Nat → va_E, G9 = fun u => hG (aB ad N u.1 u.2.1 u.2.2.1 u.2.2.2) T ea nof (Nb N) mst (bB N bst (mst mo)) (rB N ρ mo w) := ⟨_, rfl⟩
      obtain ⟨G', hG'⟩ : ∃ G' : (Nat × Nat × Nat × Nat) → Nat → va_E, G' = fun u k => if k = 21 then .inl (T 3, N 1, qa (liF ad (fun i => 100 + 3 * i) (N 1))) else G9 u k := ⟨_, rfl⟩
      have q21 : ∀ u, G' u 21 = .inl (T 3, N 1, qa (liF ad (fun i => 100 + 3 * i) (N 1))) := fun u => by rw [hG']; exact if_pos rfl
      have qo : ∀ u k, k ≠ 21 → G' u k = G9 u k := fun u k hk => by rw [hG']; exact if_neg hk
      have qk : ∀ u k, liv N k → k ≠ 7 → k ≠ 21 → G' u k = hG ad T ea nof N mst bst ρ k := fun u k hl h7 h21 => by
        rw [qo u k h21, hG9]
        have hne : k ≠ 100 + 3 * N 1 ∧ k ≠ 101 + 3 * N 1 ∧ k ≠ 102 + 3 * N 1 := by
          unfold liv at hl
          omega
        exact hG_new hl (fun k hk => aB_o (by omega) (by omega) (by omega) (by omega)) (fun k k1 k2 => aB_o (by omega) (by omega) (by omega) (by omega)) (fun k k1 k2 => aB_o (by omega) (by omega) (by omega) (by omega)) hbb hn1 hn2 (rB_o h7 hne.1 hne.2.1 hne.2.2) (fun _ => ⟨rfl, aB_o (by omega) (by omega) (by omega) (by omega), hmm4⟩) (fun h => absurd h (by omega)) (fun _ => ⟨rfl, aB_o (by omega) (by omega) (by omega) (by omega)⟩)
      have q7 : ∀ u, G' u 7 = .inr (0, [.int (ρ 7 0 + 1), .ref u.2.2.2, .int (nI (N 1 + 1))]) := fun u => by
        rw [qo u 7 (by decide), hG9]
        show hG (aB ad N u.1 u.2.1 u.2.2.1 u.2.2.2) T ea nof (Nb N) mst (bB N bst (mst mo)) (rB N ρ mo w) 7 = _
        rw [hG_7 (show 0 < Nb N 1 from Nat.succ_pos _), aB_21, rB_7, show Nb N 1 = N 1 + 1 from rfl]
      have q9 : ∀ u, G9 u 21 = .inl (T 3, cap (N 1 + 1), qa (va_up (liF ad (fun i => 100 + 3 * i) (N 1)) (N 1) (some u.1))) := fun u => by
        rw [hG9]
        show hG (aB ad N u.1 u.2.1 u.2.2.1 u.2.2.2) T ea nof (Nb N) mst (bB N bst (mst mo)) (rB N ρ mo w) 21 = _
        rw [liF_up (ad' := aB ad N u.1 u.2.1 u.2.2.1 u.2.2.2) (ix' := fun i => 100 + 3 * i) (a := u.1) (fun i hi => aB_o (by omega) (by omega) (by omega) (by omega)) aB_b]
        rfl
      have qb : ∀ u, G9 u (100 + 3 * N 1) = .inr (1, biF u.2.1 u.2.2.1 (ad (2 + mst mo)) (nwB mo w)) := fun u => by
        rw [hG9]
        show hG (aB ad N u.1 u.2.1 u.2.2.1 u.2.2.2) T ea nof (Nb N) mst (bB N bst (mst mo)) (rB N ρ mo w) (100 + 3 * N 1) = _
        rw [hG_b h4, aB_a, aB_q, bB_n, rB_b, (show aB ad N u.1 u.2.1 u.2.2.1 u.2.2.2 (2 + mst mo) = ad (2 + mst mo) from aB_o (by omega) (by omega) (by omega) (by omega))]
      have qa9 : ∀ u, G9 u (101 + 3 * N 1) = .inl (T 0, 8, .inl (fi0 (fun _ => 0) w 8)) := fun u => by
        rw [hG9]
        show hG (aB ad N u.1 u.2.1 u.2.2.1 u.2.2.2) T ea nof (Nb N) mst (bB N bst (mst mo)) (rB N ρ mo w) (101 + 3 * N 1) = _
        rw [hG_a h4, rB_a]
      have qq9 : ∀ u, G9 u (102 + 3 * N 1) = .inl (T 0, 8, .inl (fun _ => 0)) := fun u => by
        rw [hG9]
        show hG (aB ad N u.1 u.2.1 u.2.2.1 u.2.2.2) T ea nof (Nb N) mst (bB N bst (mst mo)) (rB N ρ mo w) (102 + 3 * N 1) = _
        rw [hG_q h4, rB_q]
      obtain ⟨tl, htl⟩ : ∃ tl : (Nat × Nat × Nat × Nat) → va_W, tl = fun u => [(u.1, G9 u (100 + 3 * N 1)), (u.2.1, G9 u (101 + 3 * N 1)), (u.2.2.1, G9 u (102 + 3 * N 1)), (u.2.2.2, G9 u 21)] := ⟨_, rfl⟩
      have e2 : ∀ u : (Nat × Nat × Nat × Nat), (ad 0, (Sum.inr (6, hsF ad (ρ 0 0)) : va_E)) :: (([(ad 6, .inr (0, [.int (ρ 6 0), .ref (ad 20), .int (nI (N 0))])), (ad 20, .inl (T 3, cap (N 0), qa (liF ad (fun i => 2 + mst i) (N 0)))), (ad (2 + mst mo), .inr (5, [.int (ρ (2 + mst mo) 0), .int (ρ (2 + mst mo) 1), .int (ρ (2 + mst mo) 2)])), (ad 21, .inl (T 3, N 1, qa (liF ad (fun i => 100 + 3 * i) (N 1)))), (ad 7, .inr (0, [.int (ρ 7 0 + 1), .ref u.2.2.2, .int (nI (N 1 + 1))]))] ++ iw [100, 103, 106, 109, 112, 115, 118, 121, 124, 127] ad (hG ad T ea nof N mst bst ρ)) ++ [(u.1, .inr (1, biF u.2.1 u.2.2.1 (ad (2 + mst mo)) (nwB mo w))), (u.2.1, .inl (T 0, 8, .inl (fi0 (fun _ => 0) w 8))), (u.2.2.1, .inl (T 0, 8, .inl (fun _ => 0))), (u.2.2.2, .inl (T 3, cap (N 1 + 1), qa (va_up (liF ad (fun i => 100 + 3 * i) (N 1)) (N 1) (some u.1))))]) = iw [0, 6, 20, 2 + mst mo, 21, 7, 100, 103, 106, 109, 112, 115, 118, 121, 124, 127] ad (G' u) ++ tl u := fun u => by
        have e5 : iw [100, 103, 106, 109, 112, 115, 118, 121, 124, 127] ad (G' u) = iw [100, 103, 106, 109, 112, 115, 118, 121, 124, 127] ad (hG ad T ea nof N mst bst ρ) := by
          unfold iw
          refine List.map_congr_left (fun k hk => ?_)
          simp only [List.mem_cons, List.not_mem_nil, or_false] at hk
          rw [qk u k (by unfold liv; omega) (by omega) (by omega)]
        show _ = (ad 0, G' u 0) :: (ad 6, G' u 6) :: (ad 20, G' u 20) :: (ad (2 + mst mo), G' u (2 + mst mo)) :: (ad 21, G' u 21) :: (ad 7, G' u 7) :: (iw [100, 103, 106, 109, 112, 115, 118, 121, 124, 127] ad (G' u) ++ tl u)
        rw [e5, qk u 0 (Or.inl (by decide)) (by decide) (by decide), qk u 6 (Or.inl (by decide)) (by decide) (by decide), qk u 20 (Or.inr (Or.inl ⟨rfl, hp0⟩)) (by decide) (by decide), qk u (2 + mst mo) (Or.inl (by omega)) (by omega) (by omega), q21, q7, htl]
        show _ = (ad 0, hG ad T ea nof N mst bst ρ 0) :: (ad 6, hG ad T ea nof N mst bst ρ 6) :: _
        rw [hG_6 hp0, hG_s ms4]
        show _ = _ :: _ :: _ :: _ :: _ :: _ :: (iw [100, 103, 106, 109, 112, 115, 118, 121, 124, 127] ad (hG ad T ea nof N mst bst ρ) ++ [(u.1, G9 u (100 + 3 * N 1)), (u.2.1, G9 u (101 + 3 * N 1)), (u.2.2.1, G9 u (102 + 3 * N 1)), (u.2.2.2, G9 u 21)])
        rw [qb, qa9, qq9, q9]
        rfl
      rw [← e1] at hw
      have hms : cap (N 1 + 1) + 34 ≤ 70 := by
        rw [hcs]
        omega
      have hms : 34 + cap (N 1 + 1) ≤ 70 := by omega
      refine hcB (lw := lw) (rm := lkR (zrmc 7 201 4 (34 + cap (N 1 + 1))) 4 4 (34 + cap (N 1 + 1))) (mc := 4) (ms := 34 + cap (N 1 + 1)) (S1 := Nat × Nat × Nat × Nat) (js := [0, 6, 20, 2 + mst mo, 21, 7, 100, 103, 106, 109, 112, 115, 118, 121, 124, 127]) (G' := G') (tl := tl) hI.1 ?_ (fun k hk => ?_) ?_ ⟨Nat.le_of_ble_eq_true rfl, Nat.le_of_ble_eq_true rfl, Nat.le_of_ble_eq_true rfl, hms⟩ ⟨by decide, hms⟩ (fun u k hk hn => qk u k ((hmm k).mp hk) (fun e => hn (by rw [e]; simp)) (fun e => hn (by rw [e]; simp))) (fun u => ⟨⟨J ++ [100 + 3 * N 1, 101 + 3 * N 1, 102 + 3 * N 1], aB ad N u.1 u.2.1 u.2.2.1 u.2.2.2, Nb N, mst, bB N bst (mst mo), rB N ρ mo w⟩, ?_, aB_o (by omega) (by omega) (by omega) (by omega), rfl, (by show rB N ρ mo w (100 + 3 * N 1) 13 = 240; rw [rB_b]; rfl), billet_inv hmo hnw hw1 hw2 hI h4 ?_ (fun k => ?_)⟩)
      · simp only [List.nodup_cons, List.mem_cons, List.not_mem_nil, or_false, List.nodup_nil, and_true, not_false_eq_true]
        omega
      · simp only [List.mem_cons, List.not_mem_nil, or_false] at hk
        unfold liv
        omega
      · have e4 : (fun u : (Nat × Nat × Nat × Nat) => (iw [0, 6, 20, 2 + mst mo, 21, 7, 100, 103, 106, 109, 112, 115, 118, 121, 124, 127] ad (G' u) ++ tl u)) = fun u => ((ad 0, (Sum.inr (6, hsF ad (ρ 0 0)) : va_E)) :: (([(ad 6, .inr (0, [.int (ρ 6 0), .ref (ad 20), .int (nI (N 0))])), (ad 20, .inl (T 3, cap (N 0), qa (liF ad (fun i => 2 + mst i) (N 0)))), (ad (2 + mst mo), .inr (5, [.int (ρ (2 + mst mo) 0), .int (ρ (2 + mst mo) 1), .int (ρ (2 + mst mo) 2)])), (ad 21, .inl (T 3, N 1, qa (liF ad (fun i => 100 + 3 * i) (N 1)))), (ad 7, .inr (0, [.int (ρ 7 0 + 1), .ref u.2.2.2, .int (nI (N 1 + 1))]))] ++ iw [100, 103, 106, 109, 112, 115, 118, 121, 124, 127] ad (hG ad T ea nof N mst bst ρ)) ++ [(u.1, .inr (1, biF u.2.1 u.2.2.1 (ad (2 + mst mo)) (nwB mo w))), (u.2.1, .inl (T 0, 8, .inl (fi0 (fun _ => 0) w 8))), (u.2.2.1, .inl (T 0, 8, .inl (fun _ => 0))), (u.2.2.2, .inl (T 3, cap (N 1 + 1), qa (va_up (liF ad (fun i => 100 + 3 * i) (N 1)) (N 1) (some u.1))))])) := funext (fun u => by rw [e2 u])
        rw [e4]
        exact hw
      · have pp := perm_swap (K := [100 + 3 * N 1, 101 + 3 * N 1, 102 + 3 * N 1]) (ad := ad) (ad' := aB ad N u.1 u.2.1 u.2.2.1 u.2.2.2) (G := G' u) (G9 := G9 u) (tl := tl u) hJ ((hmm 21).mpr (Or.inr (Or.inr (Or.inl ⟨rfl, hp⟩)))) (fun k hk hne => ⟨?_, (qo u k hne).symm⟩) (by
          rw [iw_cons, iw_cons, iw_cons, iw_nil, aB_b, aB_a, aB_q, aB_21, htl]
          exact List.Perm.refl _)
        · rw [hG9] at pp
          exact pp
        · have hl := (hmm k).mp hk
          have h3' : k ≠ 100 + 3 * N 1 ∧ k ≠ 101 + 3 * N 1 ∧ k ≠ 102 + 3 * N 1 := by
            unfold liv at hl
            omega
          exact aB_o h3'.1 h3'.2.1 h3'.2.2 hne
      · refine List.nodup_append.mpr ⟨hJ, ?_, fun a ha b hb e => ?_⟩
        · simp only [List.nodup_cons, List.mem_cons, List.not_mem_nil, or_false, List.nodup_nil, and_true, not_false_eq_true]
          omega
        · have hl := (hmm a).mp ha
          simp only [List.mem_cons, List.not_mem_nil, or_false] at hb
          unfold liv at hl
          omega
      · rw [List.mem_append, Nb_liv, hmm k]
        simp only [List.mem_cons, List.not_mem_nil, or_false]
        unfold liv
        omega

theorem hc_die_w (hfl : l.stackTraces = false) (hI : Inv C J N mst bst ρ a c) (h4 : N 2 = 4) (lw : va_W) : HC l D T ea mi sa yL_die wsL_die lw J ad N mst bst ρ N ρ [.ref (ad 0)] (-1000003) := by
  have e : iw [0, 8] ad (hG ad T ea nof N mst bst ρ) = [(ad 0, .inr (6, hsF ad (ρ 0 0))), (ad 8, .inr (0, [.int (ρ 8 0), .ref (if N 2 = 0 then ea else ad 22), .int (nI (N 2))]))] := rfl
  exact hc_jr (js := [0, 8]) hI.1 (by decide) (fun j hj => by simp only [List.mem_cons, List.not_mem_nil, or_false] at hj; unfold liv; omega) e e (fun _ _ => rfl) (lk_die_1 l D T ea mi sa _ (ch_die_w l hfl D T ea mi sa (ad 0) ad (ρ 0 0) (ρ 8 0) (if N 2 = 0 then ea else ad 22) (N 2) (by omega) (by omega)) ⟨rfl, rfl⟩) ⟨by decide, by decide, by decide, by decide⟩ ⟨by decide, by decide⟩ lw
theorem hc_melt_w (hfl : l.stackTraces = false) (hI : Inv C J N mst bst ρ a c) {j : Nat} (hj : j < 4) (h4 : N 0 = 20) (lw : va_W) : HC l D T ea mi sa yL_melt wsL_melt lw J ad N mst bst ρ N ρ [.ref (ad 0), .int (nI j)] (-1000003) := by
  have hp : 0 < N 0 := by omega
  have e : iw [0, 1, 6] ad (hG ad T ea nof N mst bst ρ) = [(ad 0, .inr (6, hsF ad (ρ 0 0))), (ad 1, .inl (T 4, 4, qa (stf ad))), (ad 6, .inr (0, [.int (ρ 6 0), .ref (ad 20), .int (nI (N 0))]))] := by
    rw [iw_cons, iw_cons, iw_cons, iw_nil, hG_6 hp]
    rfl
  exact hc_jr (js := [0, 1, 6]) hI.1 (by decide) (fun j hj => by simp only [List.mem_cons, List.not_mem_nil, or_false] at hj; unfold liv; omega) e e (fun _ _ => rfl) (lk_melt_2 l D T ea mi sa _ (nI j) (ch_melt_w l hfl D T ea mi sa (ad 0) ad (ρ 0 0) (stf ad) (ad (2 + j)) j hj (stf_at ad hj) (ρ 6 0) (ad 20) (N 0) (by omega) (by omega)) ⟨rfl, rfl⟩) ⟨by decide, by decide, by decide, by decide⟩ ⟨by decide, by decide⟩ lw
theorem hc_billet_w (hfl : l.stackTraces = false) (hI : Inv C J N mst bst ρ a c) {mo nw : Nat} (hmo : mo < N 0) (hw1 : 2 ≤ nw) (hw2 : nw ≤ 61) (h4 : N 1 = 12) (lw : va_W) : HC l D T ea mi sa yL_billet wsL_billet lw J ad N mst bst ρ N ρ [.ref (ad 0), .int (nI mo), .int (nI nw)] (-1000003) := by
  have hp0 : 0 < N 0 := by omega
  have hp : 0 < N 1 := by omega
  have hn0 := hI.1.2.2.1
  have k1 : ¬ nI nw < 2 := fun q => absurd ((nI_ltI (b := 2) (by omega) (by decide)).mp q) (by omega)
  have k2 : nI nw ≤ 200 := (nI_leI (b := 200) (by omega) (by decide)).mpr (by omega)
  have e : iw [0, 6, 7] ad (hG ad T ea nof N mst bst ρ) = [(ad 0, .inr (6, hsF ad (ρ 0 0))), (ad 6, .inr (0, [.int (ρ 6 0), .ref (ad 20), .int (nI (N 0))])), (ad 7, .inr (0, [.int (ρ 7 0), .ref (ad 21), .int (nI (N 1))]))] := by
    rw [iw_cons, iw_cons, iw_cons, iw_nil, hG_6 hp0, hG_7 hp]
    rfl
  exact hc_jr (js := [0, 6, 7]) hI.1 (by decide) (fun j hj => by simp only [List.mem_cons, List.not_mem_nil, or_false] at hj; unfold liv; omega) e e (fun _ _ => rfl) (lk_billet_3 l D T ea mi sa _ (nI mo) (nI nw) (ch_billet_w l hfl D T ea mi sa (ad 0) ad (ρ 0 0) (ρ 6 0) (ad 20) (N 0) mo hmo (by omega) (nI nw) k1 k2 (ρ 7 0) (ad 21) (N 1) (by omega) (by omega)) ⟨rfl, rfl⟩) ⟨by decide, by decide, by decide, by decide⟩ ⟨by decide, by decide⟩ lw
end BIRTH
