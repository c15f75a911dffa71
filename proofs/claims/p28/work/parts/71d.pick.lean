/-! ===== cells, numbers, rows: as for the other statement ===== -/
section PICK
variable {l : Launch} {D : va_G} {T : Nat → ClassId} {ea mi : Nat} {sa : Nat → Nat}
variable {C : Nat} {ad : Nat → Nat} {J : List Nat} {N mst bst : Nat → Nat} {ρ : Nat → Nat → Int32} {f : Nat → Int64} {i : Nat}
variable {β α κ : Nat → Int32}
theorem ins_out {f : Nat → Int32} {w : Int32} : ∀ (n : Nat) (f : Nat → Int32) (j : Nat), n < j → ins f w n j = f j
  | 0, f, j, h => upd_ne _ _ (by omega)
  | n + 1, f, j, h => by
    rw [ins]
    split
    · rw [ins_out n _ j (by omega) (f := f)]
      exact upd_ne _ _ (by omega)
    · exact upd_ne _ _ (by omega)
theorem ins_all {P : Int32 → Prop} {w : Int32} (hw : P w) : ∀ (n : Nat) (f : Nat → Int32), (∀ j, j < n → P (f j)) → ∀ j, j ≤ n → P (ins f w n j)
  | 0, f, _, j, hj => by
    have e : j = 0 := by omega
    subst e
    rw [ins, upd_same]
    exact hw
  | n + 1, f, h, j, hj => by
    rw [ins]
    split
    · by_cases e : j = n + 1
      · subst e
        rw [ins_out n _ (n + 1) (by omega) (f := f), upd_same]
        exact h n (by omega)
      · exact ins_all hw n _ (fun j hj => by rw [upd_ne _ _ (by omega)]; exact h j (by omega)) j (by omega)
    · by_cases e : j = n + 1
      · subst e
        rw [upd_same]
        exact hw
      · rw [upd_ne _ _ e]
        exact h j (by omega)
theorem ins_sort {w : Int32} : ∀ (n : Nat) (f : Nat → Int32), (∀ a b, a ≤ b → b < n → f a ≤ f b) → ∀ a b, a ≤ b → b ≤ n → ins f w n a ≤ ins f w n b
  | 0, f, _, a, b, h1, h2 => by
    have e : a = 0 := by omega
    have e2 : b = 0 := by omega
    subst e; subst e2
    exact Int32.le_refl _
  | n + 1, f, h, a, b, h1, h2 => by
    rw [ins]
    split
    · next hw =>
      by_cases e : b = n + 1
      · subst e
        by_cases e2 : a = n + 1
        · subst e2
          exact Int32.le_refl _
        · rw [ins_out n _ (n + 1) (by omega) (f := f), upd_same]
          exact ins_all (P := fun x => x ≤ f n) (Int32.le_of_lt hw) n _ (fun j hj => by rw [upd_ne _ _ (by omega)]; exact h j n (by omega) (by omega)) a (by omega)
      · exact ins_sort n _ (fun a b h3 h4 => by rw [upd_ne _ _ (by omega), upd_ne _ _ (by omega)]; exact h a b h3 (by omega)) a b h1 (by omega)
    · next hw =>
      by_cases e : b = n + 1
      · subst e
        by_cases e2 : a = n + 1
        · subst e2
          exact Int32.le_refl _
        · rw [upd_same, upd_ne _ _ e2]
          exact Int32.le_trans (h a n (by omega) (by omega)) (Int32.not_lt.mp hw)
      · rw [upd_ne _ _ e, upd_ne _ _ (by omega)]
        exact h a b h1 (by omega)
theorem neg_tab : ∀ n, n < 1301 → 0 < n → ¬ (0 : Int32) ≤ 0 - nI n := by decide +kernel
abbrev P3 (ad : Nat → Nat) (T : Nat → ClassId) (ρ : Nat → Nat → Int32) : va_W := [(ad 0, .inr (6, hsF ad (ρ 0 0))), (ad 14, .inr (4, [.ref (ad 15), .int (ρ 14 0), .int (ρ 14 1)])), (ad 15, .inl (T 0, 12, .inl (ρ 15)))]
theorem p3_iw : iw [0, 14, 15] ad (hG ad T ea f N mst bst ρ) = P3 ad T ρ := rfl
theorem liP : ∀ j ∈ [0, 14, 15], liv N j := by
  intro j hj
  simp only [List.mem_cons, List.not_mem_nil, or_false] at hj
  unfold liv
  omega
def N4 (N : Nat → Nat) (x : Nat) : Nat → Nat := fun k => if k = 4 then x else N k
theorem hG_N4 {x : Nat} : hG ad T ea f (N4 N x) mst bst ρ = hG ad T ea f N mst bst ρ := rfl
abbrev BQ (ad : Nat → Nat) (T : Nat → ClassId) (N bst : Nat → Nat) (ρ : Nat → Nat → Int32) (i : Nat) (f0 f1 f2 : Nat → Int32) : va_W := B4 ad T N bst ρ i ++ [(ad 10, .inr (3, [.ref (ad 11), .ref (ad 12), .ref (ad 13)])), (ad 11, .inl (T 0, 256, .inl f0)), (ad 12, .inl (T 0, 256, .inl f1)), (ad 13, .inl (T 0, 256, .inl f2))]
def upP (ρ : Nat → Nat → Int32) (f0 f1 f2 : Nat → Int32) : Nat → Nat → Int32 := fun k => if k = 11 then f0 else if k = 12 then f1 else if k = 13 then f2 else ρ k
theorem upP_o {f0 f1 f2 : Nat → Int32} {k : Nat} (h : k < 11 ∨ 13 < k) : upP ρ f0 f1 f2 k = ρ k := by
  unfold upP
  rw [if_neg (by omega), if_neg (by omega), if_neg (by omega)]
theorem bq_iw (hi : i < 12) (h0 : 0 < N 1) : iw [0, 7, 21, 100 + 3 * i, 10, 11, 12, 13] ad (hG ad T ea f N mst bst ρ) = BQ ad T N bst ρ i (ρ 11) (ρ 12) (ρ 13) := by
  rw [iw_cons, iw_cons, iw_cons, iw_cons, iw_cons, iw_cons, iw_cons, iw_cons, iw_nil, hG_b hi, hG_7 h0]
  rfl
abbrev E5 (ad : Nat → Nat) (T : Nat → ClassId) (N : Nat → Nat) (ρ : Nat → Nat → Int32) (d : Nat) (lf : Int32) (γ : Nat → Int32) : va_W := [(ad 0, .inr (6, hsF ad (ρ 0 0))), (ad 8, .inr (0, [.int (ρ 8 0), .ref (ad 22), .int (nI (N 2))])), (ad 22, .inl (T 3, cap (N 2), qa (liF ad (fun i => 200 + 2 * i) (N 2)))), (ad (200 + 2 * d), .inr (2, [.ref (ad (201 + 2 * d)), .int lf])), (ad (201 + 2 * d), .inl (T 0, 8, .inl γ))]
theorem d5_iw {d : Nat} (hd : d < 4) (h0 : 0 < N 2) : iw [0, 8, 22, 200 + 2 * d, 201 + 2 * d] ad (hG ad T ea f N mst bst ρ) = E5 ad T N ρ d (ρ (200 + 2 * d) 0) (ρ (201 + 2 * d)) := by
  rw [iw_cons, iw_cons, iw_cons, iw_cons, iw_cons, iw_nil, hG_d hd, hG_8 h0, hG_e hd]
  rfl
theorem li5 {d : Nat} (hd : d < N 2) : ∀ j ∈ [0, 8, 22, 200 + 2 * d, 201 + 2 * d], liv N j := by
  intro j hj
  simp only [List.mem_cons, List.not_mem_nil, or_false] at hj
  unfold liv
  omega
theorem nd5 {d : Nat} : [0, 8, 22, 200 + 2 * d, 201 + 2 * d].Nodup := by
  simp only [List.nodup_cons, List.mem_cons, List.not_mem_nil, or_false, List.nodup_nil, and_true, not_false_eq_true]
  omega
def upD (ρ : Nat → Nat → Int32) (d : Nat) (lf : Int32) (γ : Nat → Int32) : Nat → Nat → Int32 := fun k => if k = 200 + 2 * d then (fun _ => lf) else if k = 201 + 2 * d then γ else ρ k
theorem upD_o {d : Nat} {lf : Int32} {γ : Nat → Int32} {k : Nat} (h1 : k ≠ 200 + 2 * d) (h2 : k ≠ 201 + 2 * d) : upD ρ d lf γ k = ρ k := by
  unfold upD
  rw [if_neg h1, if_neg h2]
abbrev D4 (ad : Nat → Nat) (T : Nat → ClassId) (N : Nat → Nat) (ρ : Nat → Nat → Int32) (d : Nat) (lf : Int32) : va_W := [(ad 0, .inr (6, hsF ad (ρ 0 0))), (ad 8, .inr (0, [.int (ρ 8 0), .ref (ad 22), .int (nI (N 2))])), (ad 22, .inl (T 3, cap (N 2), qa (liF ad (fun i => 200 + 2 * i) (N 2)))), (ad (200 + 2 * d), .inr (2, [.ref (ad (201 + 2 * d)), .int lf]))]
theorem d4_iw {d : Nat} (hd : d < 4) (h0 : 0 < N 2) : iw [0, 8, 22, 200 + 2 * d] ad (hG ad T ea f N mst bst ρ) = D4 ad T N ρ d (ρ (200 + 2 * d) 0) := by
  rw [iw_cons, iw_cons, iw_cons, iw_cons, iw_nil, hG_d hd, hG_8 h0]
  rfl
end PICK
