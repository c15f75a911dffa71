/-! ===== cells, numbers, rows: as for the other statement ===== -/
section PICK
variable {l : Launch} {D : va_G} {T : Nat → ClassId} {ea mi : Nat} {sa : Nat → Nat}
variable {C : Nat} {ad : Nat → Nat} {J : List Nat} {N mst bst : Nat → Nat} {ρ : Nat → Nat → Int32} {f : Nat → Int64} {i : Nat}
variable {β α κ : Nat → Int32} {d : Nat}
theorem lif3 : ∀ n, n < 101 → lifv (nI n) 3 = nI (n - 3) ∧ (if 0 < nI n - 3 then nI n - 3 else 0) = nI (n - 3) := by decide +kernel
theorem lif1 : ∀ n, n < 101 → lifv (nI n) 1 = nI (n - 1) ∧ (if 0 < nI n - 1 then nI n - 1 else 0) = nI (n - 1) := by decide +kernel
theorem KA_at (γ α : Nat → Int32) {j : Nat} (hj : j < 8) : KA γ α j = γ j := by
  rw [KA_eq]
  have key : ∀ n, j < n → flK γ α n j = γ j := by
    intro n
    induction n with
    | zero => intro h; omega
    | succ n ih =>
      intro h
      rw [flK, Nat.zero_add]
      by_cases e : j = n
      · rw [e, upd_same]
      · rw [upd_ne _ _ e]
        exact ih (by omega)
  exact key 8 hj
abbrev P11 (ad : Nat → Nat) (T : Nat → ClassId) (N bst : Nat → Nat) (ρ : Nat → Nat → Int32) (i d : Nat) (β α κ : Nat → Int32) (lf : Int32) : va_W := E7 ad T N bst ρ i β α κ ++ [(ad 8, .inr (0, [.int (ρ 8 0), .ref (ad 22), .int (nI (N 2))])), (ad 22, .inl (T 3, cap (N 2), qa (liF ad (fun i => 200 + 2 * i) (N 2)))), (ad (200 + 2 * d), .inr (2, [.ref (ad (201 + 2 * d)), .int lf])), (ad (201 + 2 * d), .inl (T 0, 8, .inl (ρ (201 + 2 * d))))]
abbrev jsP (bst : Nat → Nat) (i d : Nat) : List Nat := [0, 7, 21, 100 + 3 * i, 101 + 3 * i, 102 + 3 * i, 2 + bst i, 8, 22, 200 + 2 * d, 201 + 2 * d]
theorem p11_iw (hi : i < 12) (h0 : 0 < N 1) (hb : bst i < 4) (hd : d < 4) (h2 : 0 < N 2) : iw (jsP bst i d) ad (hG ad T ea f N mst bst ρ) = P11 ad T N bst ρ i d (ρ (100 + 3 * i)) (ρ (101 + 3 * i)) (ρ (102 + 3 * i)) (ρ (200 + 2 * d) 0) := by
  unfold jsP
  rw [iw_cons, iw_cons, iw_cons, iw_cons, iw_cons, iw_cons, iw_cons, iw_cons, iw_cons, iw_cons, iw_cons, iw_nil, hG_b hi, hG_7 h0, hG_a hi, hG_q hi, hG_s hb, hG_d hd, hG_8 h2, hG_e hd]
  rfl
def upP9 (ρ : Nat → Nat → Int32) (i d : Nat) (β α κ : Nat → Int32) (lf : Int32) : Nat → Nat → Int32 := upR (upB ρ i β α κ) (200 + 2 * d) (fun _ => lf)
end PICK
