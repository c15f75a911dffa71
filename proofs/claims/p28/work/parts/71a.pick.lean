/-! ===== cells, numbers, rows: as for the other statement ===== -/
section PICK
variable {l : Launch} {D : va_G} {T : Nat → ClassId} {ea mi : Nat} {sa : Nat → Nat}
variable {C : Nat} {ad : Nat → Nat} {J : List Nat} {N mst bst : Nat → Nat} {ρ : Nat → Nat → Int32} {f : Nat → Int64} {i : Nat}
variable {β α κ : Nat → Int32}
def nbd (a B : Nat) (v : Int32) : Prop := ∃ n : Nat, a ≤ n ∧ n ≤ B ∧ v = nI n
theorem bnd_le {a b : Nat} (h : a ≤ b) {v : Int32} (q : bnd a v) : bnd b v := by
  obtain ⟨n, h1, h2⟩ := q
  exact ⟨n, Nat.le_trans h1 h, h2⟩
theorem nbd_le {x a b : Nat} (h : a ≤ b) {v : Int32} (q : nbd x a v) : nbd x b v := by
  obtain ⟨n, h1, h2, h3⟩ := q
  exact ⟨n, h1, Nat.le_trans h2 h, h3⟩
theorem zI_of {v : Int32} (h : ¬ v < 0) : ∃ n : Nat, n < 2 ^ 31 ∧ v = nI n := by
  refine ⟨v.toNatClampNeg, ?_, ?_⟩
  · have h1 : v.toInt < 2 ^ 31 := Int32.toInt_lt v
    have h2 : (0 : Int) ≤ v.toInt := by
      have h3 := Int32.not_lt.mp h
      have h4 := Int32.le_iff_toInt_le.mp h3
      simpa using h4
    have h5 : v.toNatClampNeg = v.toInt.toNat := rfl
    omega
  · have h3 := Int32.not_lt.mp h
    have h4 : (0 : Int) ≤ v.toInt := by
      have h4 := Int32.le_iff_toInt_le.mp h3
      simpa using h4
    have h1 : v.toInt < 2 ^ 31 := Int32.toInt_lt v
    have h5 : v.toNatClampNeg = v.toInt.toNat := rfl
    apply Int32.toInt_inj.mp
    rw [nI_toInt (by omega), h5]
    omega
theorem hG_6 (h : 0 < N 0) : hG ad T ea f N mst bst ρ 6 = .inr (0, [.int (ρ 6 0), .ref (ad 20), .int (nI (N 0))]) := by
  have e : hG ad T ea f N mst bst ρ 6 = .inr (0, [.int (ρ 6 0), .ref (if N 0 = 0 then ea else ad 20), .int (nI (N 0))]) := rfl
  rw [e, if_neg (Nat.pos_iff_ne_zero.mp h)]
theorem hG_7 (h : 0 < N 1) : hG ad T ea f N mst bst ρ 7 = .inr (0, [.int (ρ 7 0), .ref (ad 21), .int (nI (N 1))]) := by
  have e : hG ad T ea f N mst bst ρ 7 = .inr (0, [.int (ρ 7 0), .ref (if N 1 = 0 then ea else ad 21), .int (nI (N 1))]) := rfl
  rw [e, if_neg (Nat.pos_iff_ne_zero.mp h)]
theorem hG_8 (h : 0 < N 2) : hG ad T ea f N mst bst ρ 8 = .inr (0, [.int (ρ 8 0), .ref (ad 22), .int (nI (N 2))]) := by
  have e : hG ad T ea f N mst bst ρ 8 = .inr (0, [.int (ρ 8 0), .ref (if N 2 = 0 then ea else ad 22), .int (nI (N 2))]) := rfl
  rw [e, if_neg (Nat.pos_iff_ne_zero.mp h)]
abbrev B4 (ad : Nat → Nat) (T : Nat → ClassId) (N bst : Nat → Nat) (ρ : Nat → Nat → Int32) (i : Nat) : va_W := [(ad 0, .inr (6, hsF ad (ρ 0 0))), (ad 7, .inr (0, [.int (ρ 7 0), .ref (ad 21), .int (nI (N 1))])), (ad 21, .inl (T 3, cap (N 1), qa (liF ad (fun i => 100 + 3 * i) (N 1)))), (ad (100 + 3 * i), .inr (1, biF (ad (101 + 3 * i)) (ad (102 + 3 * i)) (ad (2 + bst i)) (ρ (100 + 3 * i))))]
abbrev B7 (ad : Nat → Nat) (T : Nat → ClassId) (N bst : Nat → Nat) (ρ : Nat → Nat → Int32) (i : Nat) : va_W := B4 ad T N bst ρ i ++ [(ad (101 + 3 * i), .inl (T 0, 8, .inl (ρ (101 + 3 * i)))), (ad (102 + 3 * i), .inl (T 0, 8, .inl (ρ (102 + 3 * i)))), (ad (2 + bst i), .inr (5, [.int (ρ (2 + bst i) 0), .int (ρ (2 + bst i) 1), .int (ρ (2 + bst i) 2)]))]
theorem iw_cons (j : Nat) (js : List Nat) (G : Nat → va_E) : iw (j :: js) ad G = (ad j, G j) :: iw js ad G := rfl
theorem iw_nil (G : Nat → va_E) : iw [] ad G = [] := rfl
theorem b4_iw {i : Nat} (hi : i < 12) (h0 : 0 < N 1) : iw [0, 7, 21, 100 + 3 * i] ad (hG ad T ea f N mst bst ρ) = B4 ad T N bst ρ i := by
  rw [iw_cons, iw_cons, iw_cons, iw_cons, iw_nil, hG_b hi, hG_7 h0]
  rfl
theorem b7_iw {i : Nat} (hi : i < 12) (h0 : 0 < N 1) (hb : bst i < 4) : iw [0, 7, 21, 100 + 3 * i, 101 + 3 * i, 102 + 3 * i, 2 + bst i] ad (hG ad T ea f N mst bst ρ) = B7 ad T N bst ρ i := by
  rw [iw_cons, iw_cons, iw_cons, iw_cons, iw_cons, iw_cons, iw_cons, iw_nil, hG_b hi, hG_7 h0, hG_a hi, hG_q hi, hG_s hb]
  rfl
theorem cap_le {g : Nat} (h : g ≤ 20) : g ≤ cap g ∧ cap g ≤ 40000 := by
  unfold cap
  split
  · omega
  · split <;> omega
theorem nd4 {i : Nat} : [0, 7, 21, 100 + 3 * i].Nodup := by
  simp only [List.nodup_cons, List.mem_cons, List.not_mem_nil, or_false, List.nodup_nil, and_true, not_false_eq_true]
  omega
theorem nd7 {i b : Nat} (hb : b < 4) : [0, 7, 21, 100 + 3 * i, 101 + 3 * i, 102 + 3 * i, 2 + b].Nodup := by
  simp only [List.nodup_cons, List.mem_cons, List.not_mem_nil, or_false, List.nodup_nil, and_true, not_false_eq_true]
  omega
theorem li4 {i : Nat} (hi : i < N 1) : ∀ j ∈ [0, 7, 21, 100 + 3 * i], liv N j := by
  intro j hj
  simp only [List.mem_cons, List.not_mem_nil, or_false] at hj
  unfold liv
  omega
theorem li7 {i b : Nat} (hi : i < N 1) (hb : b < 4) : ∀ j ∈ [0, 7, 21, 100 + 3 * i, 101 + 3 * i, 102 + 3 * i, 2 + b], liv N j := by
  intro j hj
  simp only [List.mem_cons, List.not_mem_nil, or_false] at hj
  unfold liv
  omega
theorem li07 : ∀ j ∈ [0, 7], liv N j := by
  intro j hj
  simp only [List.mem_cons, List.not_mem_nil, or_false] at hj
  unfold liv
  omega
end PICK
