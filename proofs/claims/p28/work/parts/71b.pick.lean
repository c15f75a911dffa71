/-! ===== cells, numbers, rows: as for the other statement ===== -/
section PICK
variable {l : Launch} {D : va_G} {T : Nat → ClassId} {ea mi : Nat} {sa : Nat → Nat}
variable {C : Nat} {ad : Nat → Nat} {J : List Nat} {N mst bst : Nat → Nat} {ρ : Nat → Nat → Int32} {f : Nat → Int64} {i : Nat}
variable {β α κ : Nat → Int32}
abbrev B8 (ad : Nat → Nat) (T : Nat → ClassId) (N bst : Nat → Nat) (ρ : Nat → Nat → Int32) (i : Nat) : va_W := B7 ad T N bst ρ i ++ [(ad 9, .inl (T 0, 20, .inl (ρ 9)))]
theorem b8_iw (hi : i < 12) (h0 : 0 < N 1) (hb : bst i < 4) : iw [0, 7, 21, 100 + 3 * i, 101 + 3 * i, 102 + 3 * i, 2 + bst i, 9] ad (hG ad T ea f N mst bst ρ) = B8 ad T N bst ρ i := by
  rw [iw_cons, iw_cons, iw_cons, iw_cons, iw_cons, iw_cons, iw_cons, iw_cons, iw_nil, hG_b hi, hG_7 h0, hG_a hi, hG_q hi, hG_s hb]
  rfl
abbrev BT5 (ad : Nat → Nat) (T : Nat → ClassId) (N bst : Nat → Nat) (ρ : Nat → Nat → Int32) (i : Nat) : va_W := B4 ad T N bst ρ i ++ [(ad 9, .inl (T 0, 20, .inl (ρ 9)))]
theorem bt_iw (hi : i < 12) (h0 : 0 < N 1) : iw [0, 7, 21, 100 + 3 * i, 9] ad (hG ad T ea f N mst bst ρ) = BT5 ad T N bst ρ i := by
  rw [iw_cons, iw_cons, iw_cons, iw_cons, iw_cons, iw_nil, hG_b hi, hG_7 h0]
  rfl
theorem ndT : [0, 7, 21, 100 + 3 * i, 9].Nodup := by
  simp only [List.nodup_cons, List.mem_cons, List.not_mem_nil, or_false, List.nodup_nil, and_true, not_false_eq_true]
  omega
theorem liT (hi : i < N 1) : ∀ j ∈ [0, 7, 21, 100 + 3 * i, 9], liv N j := by
  intro j hj
  simp only [List.mem_cons, List.not_mem_nil, or_false] at hj
  unfold liv
  omega
theorem nm1 {n : Nat} (h : n < 2 ^ 31) : ¬ nI n = -1 := nI_nm1 h
theorem isl0 (lo : Int32) : isl (-1) lo = 0 := rfl
theorem isl1 {ld nl : Nat} (h : ld < nl) (hn : nl ≤ 20) : isl (nI ld) (nI nl) = 1 := by
  unfold isl
  rw [if_neg (fun h => nI_pos (show ld < 2 ^ 31 by omega) h), if_pos ((nI_ltI (by omega) (by omega)).mpr h)]
def upB (ρ : Nat → Nat → Int32) (i : Nat) (β α κ : Nat → Int32) : Nat → Nat → Int32 := fun k => if k = 100 + 3 * i then β else if k = 101 + 3 * i then α else if k = 102 + 3 * i then κ else ρ k
theorem upB_b : upB ρ i β α κ (100 + 3 * i) = β := if_pos rfl
theorem upB_a : upB ρ i β α κ (101 + 3 * i) = α := by
  unfold upB
  rw [if_neg (by omega), if_pos rfl]
theorem upB_q : upB ρ i β α κ (102 + 3 * i) = κ := by
  unfold upB
  rw [if_neg (by omega), if_neg (by omega), if_pos rfl]
theorem upB_o {k : Nat} (h1 : k ≠ 100 + 3 * i) (h2 : k ≠ 101 + 3 * i) (h3 : k ≠ 102 + 3 * i) : upB ρ i β α κ k = ρ k := by
  unfold upB
  rw [if_neg h1, if_neg h2, if_neg h3]
abbrev E7 (ad : Nat → Nat) (T : Nat → ClassId) (N bst : Nat → Nat) (ρ : Nat → Nat → Int32) (i : Nat) (β α κ : Nat → Int32) : va_W := [(ad 0, .inr (6, hsF ad (ρ 0 0))), (ad 7, .inr (0, [.int (ρ 7 0), .ref (ad 21), .int (nI (N 1))])), (ad 21, .inl (T 3, cap (N 1), qa (liF ad (fun i => 100 + 3 * i) (N 1)))), (ad (100 + 3 * i), .inr (1, biF (ad (101 + 3 * i)) (ad (102 + 3 * i)) (ad (2 + bst i)) β)), (ad (101 + 3 * i), .inl (T 0, 8, .inl α)), (ad (102 + 3 * i), .inl (T 0, 8, .inl κ)), (ad (2 + bst i), .inr (5, [.int (ρ (2 + bst i) 0), .int (ρ (2 + bst i) 1), .int (ρ (2 + bst i) 2)]))]
theorem E7_up {ad : Nat → Nat} {T : Nat → ClassId} {N bst : Nat → Nat} {ρ : Nat → Nat → Int32} {i : Nat} {β α κ : Nat → Int32} (hb : bst i < 4) : B7 ad T N bst (upB ρ i β α κ) i = E7 ad T N bst ρ i β α κ := by
  show ([(ad 0, .inr (6, hsF ad (upB ρ i β α κ 0 0))), (ad 7, .inr (0, [.int (upB ρ i β α κ 7 0), .ref (ad 21), .int (nI (N 1))])), (ad 21, .inl (T 3, cap (N 1), qa (liF ad (fun i => 100 + 3 * i) (N 1)))), (ad (100 + 3 * i), .inr (1, biF (ad (101 + 3 * i)) (ad (102 + 3 * i)) (ad (2 + bst i)) (upB ρ i β α κ (100 + 3 * i)))), (ad (101 + 3 * i), .inl (T 0, 8, .inl (upB ρ i β α κ (101 + 3 * i)))), (ad (102 + 3 * i), .inl (T 0, 8, .inl (upB ρ i β α κ (102 + 3 * i)))), (ad (2 + bst i), .inr (5, [.int (upB ρ i β α κ (2 + bst i) 0), .int (upB ρ i β α κ (2 + bst i) 1), .int (upB ρ i β α κ (2 + bst i) 2)]))] : va_W) = _
  rw [upB_b, upB_a, upB_q, upB_o (k := 0) (by omega) (by omega) (by omega), upB_o (k := 7) (by omega) (by omega) (by omega), upB_o (k := 2 + bst i) (by omega) (by omega) (by omega)]
theorem div6p : ∀ x, x < 1301 → nI x / 6 = nI (x / 6) ∧ (0 - nI x) / 6 = 0 - nI (x / 6) := by decide +kernel
theorem div4p : ∀ x, x < 1301 → nI x / 4 = nI (x / 4) ∧ (0 - nI x) / 4 = 0 - nI (x / 4) := by decide +kernel
theorem i_negsub (a b : Int32) : a - b = 0 - (b - a) := by rw [Int32.zero_sub, Int32.neg_sub]
theorem i_subneg (a b : Int32) : a + (0 - b) = a - b := by rw [Int32.zero_sub, ← Int32.sub_eq_add_neg]
theorem mixd {d : Int32} {dn : Nat} (hd : ∀ x, x < 1301 → nI x / d = nI (x / dn) ∧ (0 - nI x) / d = 0 - nI (x / dn)) {a b : Nat} (ha : a ≤ 1300) (hb : b ≤ 1300) : nI a + (nI b - nI a) / d = nI (if a ≤ b then a + (b - a) / dn else a - (a - b) / dn) := by
  by_cases h : a ≤ b
  · rw [if_pos h, pk_sub h, (hd (b - a) (by omega)).1, nI_add]
  · rw [if_neg h, i_negsub, pk_sub (show b ≤ a by omega), (hd (a - b) (by omega)).2, i_subneg, pk_sub (Nat.le_trans (Nat.div_le_self _ _) (Nat.sub_le _ _))]
theorem nbd_mix {d : Int32} {dn : Nat} (hd : ∀ x, x < 1301 → nI x / d = nI (x / dn) ∧ (0 - nI x) / d = 0 - nI (x / dn)) {x y : Int32} (hx : nbd 20 1300 x) (hy : nbd 20 1300 y) : nbd 20 1300 (x + (y - x) / d) := by
  obtain ⟨a, a1, a2, rfl⟩ := hx
  obtain ⟨b, b1, b2, rfl⟩ := hy
  refine ⟨if a ≤ b then a + (b - a) / dn else a - (a - b) / dn, ?_, ?_, mixd hd a2 b2⟩
  · have h1 := Nat.div_le_self (b - a) dn
    have h2 := Nat.div_le_self (a - b) dn
    generalize (b - a) / dn = t1 at h1 ⊢
    generalize (a - b) / dn = t2 at h2 ⊢
    split <;> omega
  · have h1 := Nat.div_le_self (b - a) dn
    have h2 := Nat.div_le_self (a - b) dn
    generalize (b - a) / dn = t1 at h1 ⊢
    generalize (a - b) / dn = t2 at h2 ⊢
    split <;> omega
theorem nbd_wrm {x y : Int32} (hx : nbd 20 1300 x) (hy : nbd 20 1300 y) : nbd 20 1300 (wrm x y) := nbd_mix div6p hy hx
theorem nbd_clS {x : Int32} (hx : nbd 20 1300 x) : nbd 20 1300 (clS x) := by
  obtain ⟨a, a1, a2, rfl⟩ := hx
  refine ⟨a - (a - 20) / 10, by omega, by omega, ?_⟩
  unfold clS
  rw [show (20 : Int32) = nI 20 from rfl, pk_sub a1, show (10 : Int32) = nI 10 from rfl, pk_div (by omega) (by decide) (by decide), pk_sub (by omega)]
theorem nbd_cSk {x : Int32} (hx : nbd 20 1300 x) : ∀ n, nbd 20 1300 (cSk x n)
  | 0 => hx
  | n + 1 => nbd_clS (nbd_cSk hx n)
theorem nbd_cCo {x y : Int32} (hx : nbd 20 1300 x) (hy : nbd 20 1300 y) : ∀ n, nbd 20 1300 (cCo x y n)
  | 0 => hy
  | n + 1 => nbd_wrm (nbd_cSk hx (n + 1)) (nbd_cCo hx hy n)
theorem nbd_hSk {g x : Int32} (hg : nbd 20 1300 g) (hx : nbd 20 1300 x) : ∀ n, nbd 20 1300 (hSk g x n)
  | 0 => hx
  | n + 1 => nbd_mix div4p (nbd_hSk hg hx n) hg
theorem nbd_hCo {g x y : Int32} (hg : nbd 20 1300 g) (hx : nbd 20 1300 x) (hy : nbd 20 1300 y) : ∀ n, nbd 20 1300 (hCo g x y n)
  | 0 => hy
  | n + 1 => nbd_wrm (nbd_hSk hg hx (n + 1)) (nbd_hCo hg hx hy n)
end PICK
