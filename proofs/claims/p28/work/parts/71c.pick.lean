/-! ===== cells, numbers, rows: as for the other statement ===== -/
section PICK
variable {l : Launch} {D : va_G} {T : Nat → ClassId} {ea mi : Nat} {sa : Nat → Nat}
variable {C : Nat} {ad : Nat → Nat} {J : List Nat} {N mst bst : Nat → Nat} {ρ : Nat → Nat → Int32} {f : Nat → Int64} {i : Nat}
variable {β α κ : Nat → Int32}
theorem imin_n {a b : Nat} (ha : a < 2 ^ 31) (hb : b < 2 ^ 31) : imin (nI a) (nI b) = nI (min a b) := by
  unfold imin
  by_cases h : a < b
  · rw [if_pos ((nI_ltI ha hb).mpr h), Nat.min_eq_left (by omega)]
  · rw [if_neg (fun q => h ((nI_ltI ha hb).mp q)), Nat.min_eq_right (by omega)]
theorem nat_of {v : Int32} {hi : Nat} (h : hi < 2 ^ 31) (h1 : ¬ v < 1) (h2 : v ≤ nI hi) : ∃ n : Nat, 1 ≤ n ∧ n ≤ hi ∧ v = nI n := by
  have h0 : ¬ v < 0 := fun q => h1 (Int32.lt_of_lt_of_le q (by decide))
  obtain ⟨n, hn, rfl⟩ := zI_of h0
  exact ⟨n, (nI_leI (a := 1) (by decide) hn).mp (Int32.not_lt.mp h1), (nI_leI hn h).mp h2, rfl⟩
theorem lapv_comm (a b : Int32) : lapv a b = lapv b a := by
  unfold lapv
  by_cases h1 : 3 * b < a
  · rw [if_pos h1]
    split <;> rfl
  · rw [if_neg h1]
    by_cases h2 : 3 * a < b
    · rw [if_pos h2, if_pos h2]
    · rw [if_neg h2, if_neg h2, if_neg h1]
theorem b5_iw {ad : Nat → Nat} {T : Nat → ClassId} {ea : Nat} {f : Nat → Int64} {N mst bst : Nat → Nat} {ρ : Nat → Nat → Int32} {i : Nat} (hi : i < 12) (h0 : 0 < N 1) (hb : bst i < 4) : iw [0, 7, 21, 100 + 3 * i, 2 + bst i] ad (hG ad T ea f N mst bst ρ) = B4 ad T N bst ρ i ++ [(ad (2 + bst i), .inr (5, [.int (ρ (2 + bst i) 0), .int (ρ (2 + bst i) 1), .int (ρ (2 + bst i) 2)]))] := by
  rw [iw_cons, iw_cons, iw_cons, iw_cons, iw_cons, iw_nil, hG_b hi, hG_7 h0, hG_s hb]
  rfl
theorem nbr_ne (j : Nat) : nbr j ≠ j := by
  unfold nbr
  split <;> omega
end PICK
