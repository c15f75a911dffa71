/-! ===== steps: a billet's rows anew; warmth within bounds ===== -/
def upB (ρ : Nat → Nat → Int32) (i : Nat) (β α κ : Nat → Int32) : Nat → Nat → Int32 := fun k => if k = 100 + 3 * i then β else if k = 101 + 3 * i then α else if k = 102 + 3 * i then κ else ρ k
section UPB
variable {ρ : Nat → Nat → Int32} {i : Nat} {β α κ : Nat → Int32}
theorem upB_b : upB ρ i β α κ (100 + 3 * i) = β := if_pos rfl
theorem upB_a : upB ρ i β α κ (101 + 3 * i) = α := by
  unfold upB
  rw [if_neg (by omega), if_pos rfl]
theorem upB_q : upB ρ i β α κ (102 + 3 * i) = κ := by
  unfold upB
  rw [if_neg (by omega), if_neg (by omega), if_pos rfl]
theorem upB_o {k : Nat} (h1 : k ≠ 100 + 3 * i) (h2 : k ≠ 101 + 3 * i) (h3 : k ≠ 102 + 3 * i) : upB ρ i β α κ k = ρ k := by
  unfold upB
  rw [if_neg h1, if_neg h2, if_neg h3]
end UPB
abbrev E7 (ad : Nat → Nat) (T : Nat → ClassId) (N bst : Nat → Nat) (ρ : Nat → Nat → Int32) (i : Nat) (β α κ : Nat → Int32) : va_W := [(ad 0, .inr (6, hsF ad (ρ 0 0))), (ad 7, .inr (0, [.int (ρ 7 0), .ref (ad 21), .int (nI (N 1))])), (ad 21, .inl (T 3, cap (N 1), qa (liF ad (fun i => 100 + 3 * i) (N 1)))), (ad (100 + 3 * i), .inr (1, biF (ad (101 + 3 * i)) (ad (102 + 3 * i)) (ad (2 + bst i)) β)), (ad (101 + 3 * i), .inl (T 0, 8, .inl α)), (ad (102 + 3 * i), .inl (T 0, 8, .inl κ)), (ad (2 + bst i), .inr (5, [.int (ρ (2 + bst i) 0), .int (ρ (2 + bst i) 1), .int (ρ (2 + bst i) 2)]))]
theorem E7_up {ad : Nat → Nat} {T : Nat → ClassId} {N bst : Nat → Nat} {ρ : Nat → Nat → Int32} {i : Nat} {β α κ : Nat → Int32} (hb : bst i < 4) : B7 ad T N bst (upB ρ i β α κ) i = E7 ad T N bst ρ i β α κ := by
  show ([(ad 0, .inr (6, hsF ad (upB ρ i β α κ 0 0))), (ad 7, .inr (0, [.int (upB ρ i β α κ 7 0), .ref (ad 21), .int (nI (N 1))])), (ad 21, .inl (T 3, cap (N 1), qa (liF ad (fun i => 100 + 3 * i) (N 1)))), (ad (100 + 3 * i), .inr (1, biF (ad (101 + 3 * i)) (ad (102 + 3 * i)) (ad (2 + bst i)) (upB ρ i β α κ (100 + 3 * i)))), (ad (101 + 3 * i), .inl (T 0, 8, .inl (upB ρ i β α κ (101 + 3 * i)))), (ad (102 + 3 * i), .inl (T 0, 8, .inl (upB ρ i β α κ (102 + 3 * i)))), (ad (2 + bst i), .inr (5, [.int (upB ρ i β α κ (2 + bst i) 0), .int (upB ρ i β α κ (2 + bst i) 1), .int (upB ρ i β α κ (2 + bst i) 2)]))] : va_W) = _
  rw [upB_b, upB_a, upB_q, upB_o (k := 0) (by omega) (by omega) (by omega), upB_o (k := 7) (by omega) (by omega) (by omega), upB_o (k := 2 + bst i) (by omega) (by omega) (by omega)]
section ST3
variable {l : Launch} {D : va_G} {T : Nat → ClassId} {ea mi : Nat} {sa : Nat → Nat} {om : Nat} {am : Nat → Nat}
variable {C : Nat} {ad : Nat → Nat} {J : List Nat} {N mst bst : Nat → Nat} {ρ σ : Nat → Nat → Int32} {f : Nat → Int64}
variable {cy : MethodName} {cws : List Cond} {nL : Nat} {las : List Value} {my : MethodName} {mws : List Cond} {mrm : Room} {mas : List Value} {cv : Int32 → Int64} {rm : Room} {k rv : Int32} {i : Nat}
theorem okB (hI : Inv C J N mst bst ρ σ) (hi : i < N 1) {β α κ : Nat → Int32} (hw : ZIH l cy cws rm (zX ea mi sa) D T (S := Unit) (ouW (ad 16) T f :: B7 ad T N bst ρ i) (fun _ => (ad 16, .inl (T 2, 1, .inr (.inl (vp_updL f (0 : Int32).toNatClampNeg (cv rv))))) :: E7 ad T N bst ρ i β α κ) las 0 0 0)
    (hrm : rm.cells = 0 ∧ rm.slots = 0 ∧ rm.frames + 1 ≤ 11 ∧ 8 + (nL + 11) + rm.locals ≤ 404) {σ' : Nat → Nat → Int32} (hm : ZI l my mws mrm D T (mW om am T σ) (mW om am T σ') mas rv 0 0) (h31 : σ' 31 0 = 0)
    (hs : ∀ k, k < 29 → k < 6 ∨ 20 < k → σ' k = σ k) (hs1 : ∀ k i', k = 6 ∨ (9 ≤ k ∧ k ≤ 20) → i' ≠ i → σ' k i' = σ k i') (hs2 : ∀ k i' j, k = 7 ∨ k = 8 → i' ≠ i → j < 8 → σ' k (8 * i' + j) = σ k (8 * i' + j))
    (hB : BIv (C + 1) N mst (bst i) β α κ σ' i) : StepR l D T ea mi sa cy cws nL las my mws mrm mas cv om am C ad J N mst bst ρ σ f := by
  have hb := bst4 hI hi
  rw [← E7_up hb] at hw
  refine ok7 hI hi hw hrm hm h31 (fun j _ _ _ h1 h2 h3 _ => upB_o h1 h2 h3) ?_
  exact Inv_bil (Nat.le_succ C) hi hI (fun j h1 h2 h3 => upB_o h1 h2 h3) hs hs1 hs2 (by rw [upB_b, upB_a, upB_q]; exact hB)
theorem div6p : ∀ x, x < 1301 → nI x / 6 = nI (x / 6) ∧ (0 - nI x) / 6 = 0 - nI (x / 6) := by decide +kernel
theorem div4p : ∀ x, x < 1301 → nI x / 4 = nI (x / 4) ∧ (0 - nI x) / 4 = 0 - nI (x / 4) := by decide +kernel
theorem i_negsub (a b : Int32) : a - b = 0 - (b - a) := by rw [Int32.zero_sub, Int32.neg_sub]
theorem i_subneg (a b : Int32) : a + (0 - b) = a - b := by rw [Int32.zero_sub, ← Int32.sub_eq_add_neg]
theorem mixd {d : Int32} {dn : Nat} (hd : ∀ x, x < 1301 → nI x / d = nI (x / dn) ∧ (0 - nI x) / d = 0 - nI (x / dn)) {a b : Nat} (ha : a ≤ 1300) (hb : b ≤ 1300) : nI a + (nI b - nI a) / d = nI (if a ≤ b then a + (b - a) / dn else a - (a - b) / dn) := by
  by_cases h : a ≤ b
  · rw [if_pos h, pk_sub h, (hd (b - a) (by omega)).1, nI_add]
  · rw [if_neg h, i_negsub, pk_sub (show b ≤ a by omega), (hd (a - b) (by omega)).2, i_subneg, pk_sub (Nat.le_trans (Nat.div_le_self _ _) (Nat.sub_le _ _))]
theorem nbd_mix {d : Int32} {dn : Nat} (hd : ∀ x, x < 1301 → nI x / d = nI (x / dn) ∧ (0 - nI x) / d = 0 - nI (x / dn)) {x y : Int32} (hx : nbd 20 1300 x) (hy : nbd 20 1300 y) : nbd 20 1300 (x + (y - x) / d) := by
  obtain ⟨a, a1, a2, rfl⟩ := hx
  obtain ⟨b, b1, b2, rfl⟩ := hy
  refine ⟨if a ≤ b then a + (b - a) / dn else a - (a - b) / dn, ?_, ?_, mixd hd a2 b2⟩
  · have h1 := Nat.div_le_self (b - a) dn
    have h2 := Nat.div_le_self (a - b) dn
    generalize (b - a) / dn = t1 at h1 ⊢
    generalize (a - b) / dn = t2 at h2 ⊢
    split <;> omega
  · have h1 := Nat.div_le_self (b - a) dn
    have h2 := Nat.div_le_self (a - b) dn
    generalize (b - a) / dn = t1 at h1 ⊢
    generalize (a - b) / dn = t2 at h2 ⊢
    split <;> omega
theorem nbd_wrm {x y : Int32} (hx : nbd 20 1300 x) (hy : nbd 20 1300 y) : nbd 20 1300 (wrm x y) := nbd_mix div6p hy hx
theorem nbd_clS {x : Int32} (hx : nbd 20 1300 x) : nbd 20 1300 (clS x) := by
  obtain ⟨a, a1, a2, rfl⟩ := hx
  refine ⟨a - (a - 20) / 10, by omega, by omega, ?_⟩
  unfold clS
  rw [show (20 : Int32) = nI 20 from rfl, pk_sub a1, show (10 : Int32) = nI 10 from rfl, pk_div (by omega) (by decide) (by decide), pk_sub (by omega)]
theorem nbd_cSk {x : Int32} (hx : nbd 20 1300 x) : ∀ n, nbd 20 1300 (cSk x n)
  | 0 => hx
  | n + 1 => nbd_clS (nbd_cSk hx n)
theorem nbd_cCo {x y : Int32} (hx : nbd 20 1300 x) (hy : nbd 20 1300 y) : ∀ n, nbd 20 1300 (cCo x y n)
  | 0 => hy
  | n + 1 => nbd_wrm (nbd_cSk hx (n + 1)) (nbd_cCo hx hy n)
theorem nbd_hSk {g x : Int32} (hg : nbd 20 1300 g) (hx : nbd 20 1300 x) : ∀ n, nbd 20 1300 (hSk g x n)
  | 0 => hx
  | n + 1 => nbd_mix div4p (nbd_hSk hg hx n) hg
theorem nbd_hCo {g x y : Int32} (hg : nbd 20 1300 g) (hx : nbd 20 1300 x) (hy : nbd 20 1300 y) : ∀ n, nbd 20 1300 (hCo g x y n)
  | 0 => hy
  | n + 1 => nbd_wrm (nbd_hSk hg hx (n + 1)) (nbd_hCo hg hx hy n)
end ST3
