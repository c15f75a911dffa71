/-! ===== steps: cut, blow, heat ===== -/
theorem imin_n {a b : Nat} (ha : a < 2 ^ 31) (hb : b < 2 ^ 31) : imin (nI a) (nI b) = nI (min a b) := by
  unfold imin
  by_cases h : a < b
  · rw [if_pos ((nI_ltI ha hb).mpr h), Nat.min_eq_left (by omega)]
  · rw [if_neg (fun q => h ((nI_ltI ha hb).mp q)), Nat.min_eq_right (by omega)]
theorem cut_n {B : Nat} {a m : Int32} (hB : B < 2 ^ 30) (ha : nbd 1 B a) (hm : ∃ n : Nat, n < 2 ^ 31 ∧ 1 ≤ n ∧ m = nI n) : ∃ x y t : Nat, a = nI x ∧ 1 ≤ x ∧ x ≤ B ∧ imin m (a - 1) = nI t ∧ t ≤ y ∧ t < x ∧ m = nI y := by
  obtain ⟨x, x1, x2, rfl⟩ := ha
  obtain ⟨n, n0, n1, rfl⟩ := hm
  refine ⟨x, n, min n (x - 1), rfl, x1, x2, ?_, by omega, by omega, rfl⟩
  rw [show (1 : Int32) = nI 1 from rfl, pk_sub x1, imin_n n0 (by omega)]
theorem nat_of {v : Int32} {hi : Nat} (h : hi < 2 ^ 31) (h1 : ¬ v < 1) (h2 : v ≤ nI hi) : ∃ n : Nat, 1 ≤ n ∧ n ≤ hi ∧ v = nI n := by
  have h0 : ¬ v < 0 := fun q => h1 (Int32.lt_of_lt_of_le q (by decide))
  obtain ⟨n, hn, rfl⟩ := zI_of h0
  exact ⟨n, (nI_leI (a := 1) (by decide) hn).mp (Int32.not_lt.mp h1), (nI_leI hn h).mp h2, rfl⟩
/-! slices -/
theorem SA_sl {α g : Nat → Int32} {b : Nat} (h : ∀ j, j < 8 → α j = g (b + j)) : ∀ j, j < 8 → SA α 0 j = SA g b (b + j) := by
  rw [SA_eq, SA_eq]
  have key : ∀ n, n ≤ 8 → ∀ j, j < 8 → sclA α 0 n j = sclA g b n (b + j) := by
    intro n
    induction n with
    | zero => exact fun _ => h
    | succ n ih =>
      intro hn j hj
      have h1 := ih (by omega) n (by omega)
      rw [sclA, sclA, Nat.zero_add, ← h1]
      split
      · by_cases e : j = n
        · subst e
          rw [upd_same, upd_same]
        · rw [upd_ne _ _ e, upd_ne _ _ (by omega)]
          exact ih (by omega) j hj
      · exact ih (by omega) j hj
  exact key 8 (Nat.le_refl 8)
theorem SA_o {g : Nat → Int32} {b k : Nat} (h : k < b ∨ b + 8 ≤ k) : SA g b k = g k := by
  rw [SA_eq]
  have key : ∀ n, n ≤ 8 → sclA g b n k = g k := by
    intro n
    induction n with
    | zero => intro _; rfl
    | succ n ih =>
      intro hn
      rw [sclA]
      split
      · rw [upd_ne _ _ (by omega)]
        exact ih (by omega)
      · exact ih (by omega)
  exact key 8 (Nat.le_refl 8)
theorem SN_sl {α g : Nat → Int32} {b : Nat} (h : ∀ j, j < 8 → α j = g (b + j)) (x : Int32) : SN α 0 x = SN g b x := by
  rw [SN_eq, SN_eq]
  have ks : ∀ n, n ≤ 8 → ∀ j, j < 8 → sclA α 0 n j = sclA g b n (b + j) := by
    intro n
    induction n with
    | zero => exact fun _ => h
    | succ n ih =>
      intro hn j hj
      have h1 := ih (by omega) n (by omega)
      rw [sclA, sclA, Nat.zero_add, ← h1]
      split
      · by_cases e : j = n
        · subst e
          rw [upd_same, upd_same]
        · rw [upd_ne _ _ e, upd_ne _ _ (by omega)]
          exact ih (by omega) j hj
      · exact ih (by omega) j hj
  have key : ∀ n, n ≤ 8 → sclN α 0 x n = sclN g b x n := by
    intro n
    induction n with
    | zero => intro _; rfl
    | succ n ih =>
      intro hn
      rw [sclN, sclN, Nat.zero_add, ks n (by omega) n (by omega), ih (by omega)]
  exact key 8 (Nat.le_refl 8)
theorem SN_add (g : Nat → Int32) (b : Nat) (x y : Int32) : SN g b (x + y) = SN g b x + y := by
  rw [SN_eq, SN_eq]
  have key : ∀ n, sclN g b (x + y) n = sclN g b x n + y := by
    intro n
    induction n with
    | zero => rfl
    | succ n ih =>
      rw [sclN, sclN, ih]
      split
      · rw [Int32.add_assoc, Int32.add_comm y 1, ← Int32.add_assoc]
      · rfl
  exact key 8
theorem SA_nbd {α : Nat → Int32} {B : Nat} (hB : B < 2 ^ 30) (h : ∀ j, j < 8 → nbd 1 B (α j)) : ∀ j, j < 8 → nbd 1 B (SA α 0 j) := by
  rw [SA_eq]
  have key : ∀ n, n ≤ 8 → ∀ j, j < 8 → nbd 1 B (sclA α 0 n j) := by
    intro n
    induction n with
    | zero => exact fun _ => h
    | succ n ih =>
      intro hn j hj
      rw [sclA]
      split
      · next h1 =>
        by_cases e : j = 0 + n
        · rw [e, upd_same]
          obtain ⟨x, x1, x2, x3⟩ := ih (by omega) (0 + n) (by omega)
          rw [x3] at h1 ⊢
          have h2 := (nI_ltI (a := 1) (by decide) (by omega)).mp h1
          rw [show (1 : Int32) = nI 1 from rfl, pk_sub x1]
          exact ⟨x - 1, by omega, by omega, rfl⟩
        · rw [upd_ne _ _ e]
          exact ih (by omega) j hj
      · exact ih (by omega) j hj
  exact key 8 (Nat.le_refl 8)
theorem hAr_sl {α g : Nat → Int32} {b : Nat} (f sk : Int32) (h : ∀ j, j < 8 → α j = g (b + j)) : ∀ n j, j < 8 → hAr f sk 0 α n j = hAr f sk b g n (b + j) := by
  intro n
  induction n with
  | zero => exact h
  | succ n ih =>
    intro j hj
    rw [hAr, hAr]
    split
    · split
      · exact ih j hj
      · exact SA_sl ih j hj
    · exact ih j hj
theorem hAr_o {g : Nat → Int32} {b k : Nat} (f sk : Int32) (h : k < b ∨ b + 8 ≤ k) : ∀ n, hAr f sk b g n k = g k := by
  intro n
  induction n with
  | zero => rfl
  | succ n ih =>
    rw [hAr]
    split
    · split
      · exact ih
      · rw [SA_o h]
        exact ih
    · exact ih
theorem hAr_nbd {α : Nat → Int32} {B : Nat} (f sk : Int32) (hB : B < 2 ^ 30) (h : ∀ j, j < 8 → nbd 1 B (α j)) : ∀ n j, j < 8 → nbd 1 B (hAr f sk 0 α n j) := by
  intro n
  induction n with
  | zero => exact h
  | succ n ih =>
    intro j hj
    rw [hAr]
    split
    · split
      · exact ih j hj
      · exact SA_nbd hB ih j hj
    · exact ih j hj
theorem hLo_sl {α g : Nat → Int32} {b : Nat} (f sk x : Int32) (h : ∀ j, j < 8 → α j = g (b + j)) : ∀ n, hLo f sk 0 α x n = hLo f sk b g x n := by
  intro n
  induction n with
  | zero => rfl
  | succ n ih =>
    rw [hLo, hLo, ih, SN_sl (hAr_sl f sk h n)]
theorem hLo_add (g : Nat → Int32) (b : Nat) (f sk x y : Int32) : ∀ n, hLo f sk b g (x + y) n = hLo f sk b g x n + y := by
  intro n
  induction n with
  | zero => rfl
  | succ n ih =>
    rw [hLo, hLo, ih, SN_add]
    split
    · split <;> rfl
    · rfl
theorem FI_at {g : Nat → Int32} {b : Nat} (v : Int32) {j : Nat} (hj : j < 8) : FI g b v (b + j) = v := by
  rw [FI_eq]
  have key : ∀ n, n ≤ 8 → j < n → fil g b v n (b + j) = v := by
    intro n
    induction n with
    | zero => intro _ h; omega
    | succ n ih =>
      intro hn h
      rw [fil]
      by_cases e : j = n
      · rw [e, upd_same]
      · rw [upd_ne _ _ (by omega)]
        exact ih (by omega) (by omega)
  exact key 8 (Nat.le_refl 8) hj
theorem FI_o {g : Nat → Int32} {b k : Nat} (v : Int32) (h : k < b ∨ b + 8 ≤ k) : FI g b v k = g k := by
  rw [FI_eq]
  have key : ∀ n, n ≤ 8 → fil g b v n k = g k := by
    intro n
    induction n with
    | zero => intro _; rfl
    | succ n ih =>
      intro hn
      rw [fil, upd_ne _ _ (by omega)]
      exact ih (by omega)
  exact key 8 (Nat.le_refl 8)
theorem blA_sl {α g : Nat → Int32} {b s t : Nat} {m : Int32} (hs : s < 8) (ht : t < 8) (h : ∀ j, j < 8 → α j = g (b + j)) (j : Nat) (hj : j < 8) : blA α s t m j = blA g (b + s) (b + t) m (b + j) := by
  unfold blA
  have hu : ∀ j, j < 8 → upd α s (α s - m) j = upd g (b + s) (g (b + s) - m) (b + j) := by
    intro j hj
    by_cases e : j = s
    · rw [e, upd_same, upd_same, h s hs]
    · rw [upd_ne _ _ e, upd_ne _ _ (by omega), h j hj]
  by_cases e : j = t
  · rw [e, upd_same, upd_same, hu t ht]
  · rw [upd_ne _ _ e, upd_ne _ _ (show b + j ≠ b + t by omega), hu j hj]
theorem blA_o {g : Nat → Int32} {b s t k : Nat} {m : Int32} (hs : s < 8) (ht : t < 8) (h : k < b ∨ b + 8 ≤ k) : blA g (b + s) (b + t) m k = g k := by
  unfold blA
  rw [upd_ne _ _ (by omega), upd_ne _ _ (by omega)]
theorem blA_nbd {α : Nat → Int32} {B s t : Nat} {m : Int32} (hB : B < 2 ^ 29) (hs : s < 8) (ht : t < 8) (hst : t ≠ s) (h : ∀ j, j < 8 → nbd 1 B (α j)) {fo : Int32} (hfo : ∃ n : Nat, n ≤ 20 ∧ 1 ≤ n ∧ fo = nI n) (hm : m = imin fo (α s - 1)) (j : Nat) (hj : j < 8) : nbd 1 (B + 20) (blA α s t m j) := by
  obtain ⟨n, n1, n2, n3⟩ := hfo
  obtain ⟨x, y, tt, e1, e2, e3, e4, e5, e6, e7⟩ := cut_n (by omega) (h s hs) ⟨n, by omega, n2, n3⟩
  rw [← hm] at e4
  have hy : y ≤ 20 ∨ 20 < y := by omega
  have htt : tt ≤ 20 := by
    have h9 : imin fo (α s - 1) = nI (min n (x - 1)) := by rw [n3, e1, show (1 : Int32) = nI 1 from rfl, pk_sub e2, imin_n (by omega) (by omega)]
    rw [← hm, e4] at h9
    have h10 := (nI_eq (by omega) (by omega)).mp h9
    omega
  unfold blA
  have hu : ∀ j, j < 8 → nbd 1 B (upd α s (α s - m) j) := by
    intro j hj
    by_cases e : j = s
    · rw [e, upd_same, e1, e4, pk_sub (by omega)]
      exact ⟨x - tt, by omega, by omega, rfl⟩
    · rw [upd_ne _ _ e]
      exact h j hj
  by_cases e : j = t
  · rw [e, upd_same]
    obtain ⟨z, z1, z2, z3⟩ := hu t ht
    rw [z3, e4, nI_add]
    exact ⟨z + tt, by omega, by omega, rfl⟩
  · rw [upd_ne _ _ e]
    exact nbd_le (by omega) (hu j hj)
theorem lapv_comm (a b : Int32) : lapv a b = lapv b a := by
  unfold lapv
  by_cases h1 : 3 * b < a
  · rw [if_pos h1]
    split <;> rfl
  · rw [if_neg h1]
    by_cases h2 : 3 * a < b
    · rw [if_pos h2, if_pos h2]
    · rw [if_neg h2, if_neg h2, if_neg h1]
theorem lap_bnd {C : Nat} {v : Int32} (h : bnd C v) (a b : Int32) : bnd (C + 1) (v + lapv a b) := by
  obtain ⟨n, h1, rfl⟩ := h
  have e : lapv a b = nI 0 ∨ lapv a b = nI 1 := by
    unfold lapv
    split
    · exact Or.inr rfl
    · split
      · exact Or.inr rfl
      · exact Or.inl rfl
  rcases e with e | e
  · rw [e, nI_add]
    exact ⟨n + 0, by omega, rfl⟩
  · rw [e, nI_add]
    exact ⟨n + 1, by omega, rfl⟩
theorem grv_bnd {gr fo co : Int32} (h : bnd 200 gr) (hfo : ∃ n : Nat, n ≤ 20 ∧ 1 ≤ n ∧ fo = nI n) : bnd 200 (grv gr fo co) := by
  obtain ⟨g, g1, rfl⟩ := h
  obtain ⟨n, n1, n2, rfl⟩ := hfo
  unfold grv
  split
  · exact ⟨g, g1, rfl⟩
  · by_cases e : n ≤ g
    · rw [pk_sub e]
      split
      · exact ⟨5, by decide, rfl⟩
      · exact ⟨g - n, by omega, rfl⟩
    · have h5 : nI g - nI n < 5 := by
        have h9 : ∀ g, g < 21 → ∀ n, n < 21 → g < n → nI g - nI n < 5 := by decide +kernel
        exact h9 g (by omega) n (by omega) (by omega)
      rw [if_pos h5]
      exact ⟨5, by decide, rfl⟩
section ST5
variable {l : Launch} {D : va_G} {T : Nat → ClassId} {ea mi : Nat} {sa : Nat → Nat} {om : Nat} {am : Nat → Nat}
variable {C : Nat} {ad : Nat → Nat} {J : List Nat} {N mst bst : Nat → Nat} {ρ σ : Nat → Nat → Int32} {f : Nat → Int64}
variable {i : Nat}
theorem b5_iw {ad : Nat → Nat} {T : Nat → ClassId} {ea : Nat} {f : Nat → Int64} {N mst bst : Nat → Nat} {ρ : Nat → Nat → Int32} {i : Nat} (hi : i < 12) (h0 : 0 < N 1) (hb : bst i < 4) : iw [0, 7, 21, 100 + 3 * i, 2 + bst i] ad (hG ad T ea f N mst bst ρ) = B4 ad T N bst ρ i ++ [(ad (2 + bst i), .inr (5, [.int (ρ (2 + bst i) 0), .int (ρ (2 + bst i) 1), .int (ρ (2 + bst i) 2)]))] := by
  rw [iw_cons, iw_cons, iw_cons, iw_cons, iw_cons, iw_nil, hG_b hi, hG_7 h0, hG_s hb]
  rfl
theorem bad5 {cy : MethodName} {cws : List Cond} {nL : Nat} {las : List Value} {my : MethodName} {mws : List Cond} {mrm : Room} {mas : List Value} {cv : Int32 → Int64} {rm : Room} {k rv : Int32} (hI : Inv C J N mst bst ρ σ) (hi : i < N 1) (hw : ZIH l cy cws rm (zX ea mi sa) D T (S := Unit) (ouW (ad 16) T f :: (B4 ad T N bst ρ i ++ [(ad (2 + bst i), .inr (5, [.int (ρ (2 + bst i) 0), .int (ρ (2 + bst i) 1), .int (ρ (2 + bst i) 2)]))])) (fun _ => ouW (ad 16) T f :: (B4 ad T N bst ρ i ++ [(ad (2 + bst i), .inr (5, [.int (ρ (2 + bst i) 0), .int (ρ (2 + bst i) 1), .int (ρ (2 + bst i) 2)]))])) las k 1 6)
    (hrm : rm.cells = 1 ∧ rm.slots = 6 ∧ rm.frames + 1 ≤ 11 ∧ 8 + (nL + 11) + rm.locals ≤ 404) (hk : k ≠ 0) (hm : ZI l my mws mrm D T (mW om am T σ) (mW om am T (upS σ 31 (fun _ => k))) mas rv 0 0) : StepR l D T ea mi sa cy cws nL las my mws mrm mas cv om am C ad J N mst bst ρ σ f := by
  have hn := hI.1.2.2.2.1
  have hb := bst4 hI hi
  rw [← b5_iw (f := f) (ea := ea) (mst := mst) (by omega) (by omega) hb] at hw
  refine step_bad (js := [0, 7, 21, 100 + 3 * i, 2 + bst i]) hI ?_ (fun j hj => ?_) hw hrm hk hm
  · simp only [List.nodup_cons, List.mem_cons, List.not_mem_nil, or_false, List.nodup_nil, and_true, not_false_eq_true]
    omega
  · simp only [List.mem_cons, List.not_mem_nil, or_false] at hj
    unfold liv
    omega
theorem st_cut (hfl : l.stackTraces = false) (hC : C ≤ 600) (hI : Inv C J N mst bst ρ σ) (x y z : Int32) : StepR l D T ea mi sa yL_cut wsL_cut 6 [.ref (ad 0), .int x, .int y, .int z, .ref (ad 16)] yX6_cut wsX6_cut (zrm 2 43) [.ref om, .int x, .int y, .int z] (fun r => r.toInt64) om am C ad J N mst bst ρ σ f := by
  have hn := hI.1.2.2.2.1
  have h5 := hI.1.2.2.2.2.2.2.1
  rcases bin_01 x 0 (σ 5 0 - 1) with hb | hb
  · have hv := bin_n0 (by omega) (h5 ▸ hb)
    have hg : gth (if bin x 0 (σ 5 0 - 1) = 0 then 0 else if bin y 0 7 = 0 then 0 else 1) (bin z 1 200) 1 = 1 := by rw [hb]; rfl
    have hm := cm_cut_bad l D T om am σ x y z (by rw [hg]; decide)
    rw [hg] at hm
    exact badL hI (lk_cut_1 l D T ea mi sa _ _ f x y z (ch_cut_b l hfl D T ea mi sa _ ad _ _ _ (N 1) x y z hv) ⟨rfl, rfl⟩) ⟨rfl, rfl, by decide, by decide⟩ (by decide) hm
  · obtain ⟨i, hi, rfl⟩ := bin_n1 (by omega) (h5 ▸ hb)
    obtain ⟨i12, c1, c2⟩ := liB hI hi
    obtain ⟨⟨mo, hmo, b0, s6, bs⟩, ⟨b3, b456⟩, ⟨b7, w7⟩, ⟨b8, w8⟩, b9, ⟨b10, w10⟩, ⟨b11, w11⟩, ⟨b12, w12⟩, ⟨p9, hp9, b13, s15⟩, hld, hpt, har⟩ := hI.2.2.2.2.2.2.2 i hi
    rcases bin_01 y 0 7 with hs | hs
    · have hg : gth (if bin (nI i) 0 (σ 5 0 - 1) = 0 then 0 else if bin y 0 7 = 0 then 0 else 1) (bin z 1 200) 1 = 1 := by rw [hb, hs]; rfl
      have hm := cm_cut_bad l D T om am σ (nI i) y z (by rw [hg]; decide)
      rw [hg] at hm
      exact bad4 hI hi (lk_cut_1 l D T ea mi sa _ _ f (nI i) y z (ch_cut_s l hfl D T ea mi sa _ ad _ _ _ _ _ _ _ _ _ _ _ i hi c1 c2 (liF_at hi) y z (bin_70 hs)) ⟨rfl, rfl⟩) ⟨rfl, rfl, by decide, by decide⟩ (by decide) hm
    · obtain ⟨j, hj, rfl⟩ := bin_71 hs
      rcases bin_01 z 1 200 with hz | hz
      · have hg : gth (if bin (nI i) 0 (σ 5 0 - 1) = 0 then 0 else if bin (nI j) 0 7 = 0 then 0 else 1) (bin z 1 200) 1 = 2 := by rw [hb, hs, hz]; rfl
        have hm := cm_cut_bad l D T om am σ (nI i) (nI j) z (by rw [hg]; decide)
        rw [hg] at hm
        exact bad4 hI hi (lk_cut_2 l D T ea mi sa _ _ f (nI i) (nI j) z (ch_cut_a l hfl D T ea mi sa _ ad _ _ _ _ _ _ _ _ _ _ _ i hi c1 c2 (liF_at hi) j hj z (bin0.mp hz)) ⟨rfl, rfl⟩) ⟨rfl, rfl, by decide, by decide⟩ (by decide) hm
      · obtain ⟨z1, z2⟩ := bin_k1 hz
        obtain ⟨nz, nz1, nz2, nz3⟩ := nat_of (hi := 200) (by decide) z1 z2
        have hm := cm_cut_ok l D T om am σ i j z i12 hj hb hs hz
        rw [← (har j hj).1] at hm
        obtain ⟨xx, yy, tt, e1, e2, e3, e4, e5, e6, e7⟩ := cut_n (by omega) (har j hj).2 ⟨nz, by omega, nz1, nz3⟩
        exact okB hI hi (lk_cut l D T ea mi sa _ _ f (nI i) (nI j) z (zI_H (ch_cut l D T _ ad _ _ _ _ _ _ _ _ _ _ _ _ _ _ i hi c1 c2 (liF_at hi) j hj z z1 z2)) ⟨rfl, rfl⟩ (fun _ _ _ => rfl) (fun _ => Nat.le_refl _)) ⟨rfl, rfl, by decide, by decide⟩ hm rfl
          (fun k h1 h2 => (upS_ne _ _ (show k ≠ 31 by omega)).trans ((upS_ne _ _ (show k ≠ 20 by omega)).trans (upS_ne _ _ (show k ≠ 7 by omega))))
                (fun k i' hk hne => by
                    by_cases e20 : k = 20
                    · subst e20; exact upd_ne _ _ hne
                    exact congrFun ((upS_ne _ _ (show k ≠ 31 by omega)).trans ((upS_ne _ _ (show k ≠ 20 by omega)).trans (upS_ne _ _ (show k ≠ 7 by omega)))) i'
                )
                (fun k i' j hk hne hj => by
                    by_cases e7 : k = 7
                    · subst e7; exact upd_ne _ _ (by omega)
                    exact congrFun ((upS_ne _ _ (show k ≠ 31 by omega)).trans ((upS_ne _ _ (show k ≠ 20 by omega)).trans (upS_ne _ _ (show k ≠ 7 by omega)))) (8 * i' + j)
                )
          ⟨⟨mo, hmo, b0, s6, bs⟩, ⟨b3, (by rw [show (upS (upS (upS σ 7 (upd (σ 7) (8 * i + j) (ρ (101 + 3 * i) j - imin z (ρ (101 + 3 * i) j - 1)))) 20 (upd (σ 20) i (σ 20 i + imin z (ρ (101 + 3 * i) j - 1)))) 31 (fun _ => 0)) 20 i = (σ 20 i + imin z (ρ (101 + 3 * i) j - 1)) from upd_same _ _ _, ← b456, Int32.add_assoc (ρ (100 + 3 * i) 4 + ρ (100 + 3 * i) 5)]; rfl)⟩, ⟨b7, w7⟩, ⟨b8, w8⟩, b9, ⟨b10, w10⟩, ⟨b11, bnd_le (Nat.le_succ C) w11⟩, ⟨b12, w12⟩, ⟨p9, hp9, b13, s15⟩, hld, hpt, fun j9 hj9 => (by
                  by_cases e : j9 = j
                  · subst e
                    refine ⟨(upd_same _ _ _).trans (upd_same _ _ _).symm, ?_⟩
                    rw [upd_same, e1, show imin z (nI xx - 1) = nI tt from by rw [← e1]; exact e4, pk_sub (by omega)]
                    exact ⟨xx - tt, by omega, by omega, rfl⟩
                  · refine ⟨(upd_ne _ _ e).trans ((har j9 hj9).1.trans (upd_ne _ _ (show 8 * i + j9 ≠ 8 * i + j by omega)).symm), ?_⟩
                    rw [upd_ne _ _ e]
                    exact nbd_le (by omega) (har j9 hj9).2)⟩
theorem st_heat (hfl : l.stackTraces = false) (hC : C ≤ 600) (hI : Inv C J N mst bst ρ σ) (x y z : Int32) : StepR l D T ea mi sa yL_heat wsL_heat 6 [.ref (ad 0), .int x, .int y, .int z, .ref (ad 16)] yX6_heat wsX6_heat (zrm 2 43) [.ref om, .int x, .int y, .int z] (fun r => r.toInt64) om am C ad J N mst bst ρ σ f := by
  have hn := hI.1.2.2.2.1
  have h5 := hI.1.2.2.2.2.2.2.1
  rcases bin_01 x 0 (σ 5 0 - 1) with hb | hb
  · have hv := bin_n0 (by omega) (h5 ▸ hb)
    have hm := cm_heat_b1 l D T om am σ x y z hb
    exact badL hI (lk_heat_1 l D T ea mi sa _ _ f x y z (ch_heat_b l hfl D T ea mi sa _ ad _ _ _ (N 1) x y z hv) ⟨rfl, rfl⟩) ⟨rfl, rfl, by decide, by decide⟩ (by decide) hm
  · obtain ⟨i, hi, rfl⟩ := bin_n1 (by omega) (h5 ▸ hb)
    obtain ⟨i12, c1, c2⟩ := liB hI hi
    obtain ⟨⟨mo, hmo, b0, s6, bs⟩, ⟨b3, b456⟩, ⟨b7, w7⟩, ⟨b8, w8⟩, b9, ⟨b10, w10⟩, ⟨b11, w11⟩, ⟨b12, w12⟩, ⟨p9, hp9, b13, s15⟩, hld, hpt, har⟩ := hI.2.2.2.2.2.2.2 i hi
    obtain ⟨hs0, hs1, hs2⟩ := hI.2.1 (bst i) (bst4 hI hi)
    have hst := bst4 hI hi
    have s4 : σ 4 mo = nI (bst i) := by rw [bs]; exact (hI.2.2.1 mo hmo).2
    have hm20 : mo < 20 := Nat.lt_of_lt_of_le hmo hI.1.2.2.1
    have ref2 : ∀ k : Int32, k ≠ 0 → gth 1 (if bin y 200 1300 = 0 then 0 else if bin z 1 200 = 0 then 0 else 1) (if σ 12 i < σ 0 (bst i) then 1 else 0) = k → ZI l yX6_heat wsX6_heat (zrm 2 43) D T (mW om am T σ) (mW om am T (upS σ 31 (fun _ => k))) [.ref om, .int (nI i), .int y, .int z] 0 0 0 := by
      intro k hk hg
      have hm := cm_heat_b2 l D T om am σ i mo (bst i) y z i12 hb s6 hm20 s4 hst (by rw [hg]; exact hk)
      rw [hg] at hm
      exact hm
    rcases bin_01 y 200 1300 with hy | hy
    · exact bad4 hI hi (lk_heat_2 l D T ea mi sa _ _ f (nI i) y z (ch_heat_f l hfl D T ea mi sa _ ad _ _ _ _ _ _ _ _ _ _ _ i hi c1 c2 (liF_at hi) y z (bin0.mp hy)) ⟨rfl, rfl⟩) ⟨rfl, rfl, by decide, by decide⟩ (by decide) (ref2 2 (by decide) (by rw [hy]; rfl))
    · obtain ⟨y1, y2⟩ := bin_k1 hy
      rcases bin_01 z 1 200 with hz | hz
      · exact bad4 hI hi (lk_heat_2 l D T ea mi sa _ _ f (nI i) y z (ch_heat_m l hfl D T ea mi sa _ ad _ _ _ _ _ _ _ _ _ _ _ i hi c1 c2 (liF_at hi) y z y1 y2 (bin0.mp hz)) ⟨rfl, rfl⟩) ⟨rfl, rfl, by decide, by decide⟩ (by decide) (ref2 2 (by decide) (by rw [hy, hz]; rfl))
      · obtain ⟨n, n1, n2, rfl⟩ := bin_nat (lo := 1) (hi := 200) (by decide) (by decide) hz
        by_cases hh : σ 12 i < σ 0 (bst i)
        · have hm := cm_heat_ok l D T om am σ i mo (bst i) n y (ρ (100 + 3 * i) 7) (ρ (100 + 3 * i) 8) (σ 20 i) (ρ (100 + 3 * i) 10) i12 n2 hb hy hz s6 hm20 s4 hst hh b7.symm b8.symm rfl b10.symm
          obtain ⟨ny, ny1, ny2, ny3⟩ := bin_nat (lo := 200) (hi := 1300) (by decide) (by decide) hy
          have wy : nbd 20 1300 y := ⟨ny, by omega, ny2, ny3⟩
          have hsl := fun j hj => (har j hj).1
          exact okB hI hi (lk_heat l D T ea mi sa _ _ f (nI i) y (nI n) (zI_H (ch_heat l D T _ ad _ _ _ _ _ _ _ _ _ _ _ _ _ _ i hi c1 c2 (liF_at hi) y n y1 y2 n1 n2 (by rw [b9, hs0]; exact hh) w10)) ⟨rfl, rfl⟩ (fun _ _ _ => rfl) (fun _ => Nat.le_refl _)) ⟨rfl, rfl, by decide, by decide⟩ hm rfl
            (fun k h1 h2 => (upS_ne _ _ (show k ≠ 31 by omega)).trans ((upS_ne _ _ (show k ≠ 20 by omega)).trans ((upS_ne _ _ (show k ≠ 17 by omega)).trans ((upS_ne _ _ (show k ≠ 16 by omega)).trans ((upS_ne _ _ (show k ≠ 12 by omega)).trans ((upS_ne _ _ (show k ≠ 11 by omega)).trans ((upS_ne _ _ (show k ≠ 10 by omega)).trans ((upS_ne _ _ (show k ≠ 9 by omega)).trans ((upS_ne _ _ (show k ≠ 8 by omega)).trans (upS_ne _ _ (show k ≠ 7 by omega)))))))))))
                (fun k i' hk hne => by
                    by_cases e20 : k = 20
                    · subst e20; exact upd_ne _ _ hne
                    by_cases e17 : k = 17
                    · subst e17; exact upd_ne _ _ hne
                    by_cases e16 : k = 16
                    · subst e16; exact upd_ne _ _ hne
                    by_cases e12 : k = 12
                    · subst e12; exact upd_ne _ _ hne
                    by_cases e11 : k = 11
                    · subst e11; exact upd_ne _ _ hne
                    by_cases e10 : k = 10
                    · subst e10; exact upd_ne _ _ hne
                    by_cases e9 : k = 9
                    · subst e9; exact upd_ne _ _ hne
                    exact congrFun ((upS_ne _ _ (show k ≠ 31 by omega)).trans ((upS_ne _ _ (show k ≠ 20 by omega)).trans ((upS_ne _ _ (show k ≠ 17 by omega)).trans ((upS_ne _ _ (show k ≠ 16 by omega)).trans ((upS_ne _ _ (show k ≠ 12 by omega)).trans ((upS_ne _ _ (show k ≠ 11 by omega)).trans ((upS_ne _ _ (show k ≠ 10 by omega)).trans ((upS_ne _ _ (show k ≠ 9 by omega)).trans ((upS_ne _ _ (show k ≠ 8 by omega)).trans (upS_ne _ _ (show k ≠ 7 by omega))))))))))) i'
                )
                (fun k i' j hk hne hj => by
                    by_cases e8 : k = 8
                    · subst e8; exact FI_o _ (by omega)
                    by_cases e7 : k = 7
                    · subst e7; exact hAr_o _ _ (by omega) n
                    exact congrFun ((upS_ne _ _ (show k ≠ 31 by omega)).trans ((upS_ne _ _ (show k ≠ 20 by omega)).trans ((upS_ne _ _ (show k ≠ 17 by omega)).trans ((upS_ne _ _ (show k ≠ 16 by omega)).trans ((upS_ne _ _ (show k ≠ 12 by omega)).trans ((upS_ne _ _ (show k ≠ 11 by omega)).trans ((upS_ne _ _ (show k ≠ 10 by omega)).trans ((upS_ne _ _ (show k ≠ 9 by omega)).trans ((upS_ne _ _ (show k ≠ 8 by omega)).trans (upS_ne _ _ (show k ≠ 7 by omega))))))))))) (8 * i' + j)
                )
            ⟨⟨mo, hmo, b0, s6, bs⟩, ⟨b3, (by
                  show hLo y (ρ (100 + 3 * i) 7) 0 (ρ (101 + 3 * i)) (ρ (100 + 3 * i) 4) n + ρ (100 + 3 * i) 5 + ρ (100 + 3 * i) 6 = upd (σ 20) i (hLo y (ρ (100 + 3 * i) 7) (8 * i) (σ 7) (σ 20 i) n) i
                  rw [upd_same, hLo_sl y (ρ (100 + 3 * i) 7) _ hsl, ← b456, Int32.add_assoc (ρ (100 + 3 * i) 4), hLo_add, Int32.add_assoc])⟩, ⟨(upd_same _ _ _).symm, nbd_hSk wy w7 n⟩, ⟨(upd_same _ _ _).symm, nbd_hCo wy w7 w8 n⟩, (by show ρ (100 + 3 * i) 9 + 1 = upd (σ 12) i (σ 12 i + 1) i; rw [upd_same, b9]), ⟨(upd_same _ _ _).symm, hGr_le y (ρ (100 + 3 * i) 7) (ρ (100 + 3 * i) 8) w10 n⟩, ⟨b11, bnd_le (Nat.le_succ C) w11⟩, ⟨b12, w12⟩, ⟨p9, hp9, b13, s15⟩, Or.inl ⟨rfl, upd_same _ _ _, upd_same _ _ _, fun j hj => FI_at 0 hj⟩, hpt, fun j hj => ⟨hAr_sl y (ρ (100 + 3 * i) 7) hsl n j hj, nbd_le (by omega) (hAr_nbd y (ρ (100 + 3 * i) 7) (B := 400 + 20 * C) (by omega) (fun j hj => (har j hj).2) n j hj)⟩⟩
        · exact bad5 hI hi (lk_heat_3 l D T ea mi sa _ _ f (nI i) y (nI n) (ch_heat_h l hfl D T ea mi sa _ ad _ _ _ _ _ _ _ _ _ _ _ _ i hi c1 c2 (liF_at hi) y n y1 y2 n1 n2 (by rw [b9, hs0]; exact hh)) ⟨rfl, rfl⟩) ⟨rfl, rfl, by decide, by decide⟩ (by decide) (ref2 3 (by decide) (by rw [hy, hz, if_neg hh]; rfl))
end ST5
