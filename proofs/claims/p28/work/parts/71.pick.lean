/-! ===== cells, numbers, rows: as for the other statement ===== -/
section PICK
variable {l : Launch} {D : va_G} {T : Nat → ClassId} {ea mi : Nat} {sa : Nat → Nat}
variable {C : Nat} {ad : Nat → Nat} {J : List Nat} {N mst bst : Nat → Nat} {ρ : Nat → Nat → Int32} {f : Nat → Int64} {i : Nat}
variable {β α κ : Nat → Int32}
def nbd (a B : Nat) (v : Int32) : Prop := ∃ n : Nat, a ≤ n ∧ n ≤ B ∧ v = nI n
theorem bnd_le {a b : Nat} (h : a ≤ b) {v : Int32} (q : bnd a v) : bnd b v := by
  obtain ⟨n, h1, h2⟩ := q
  exact ⟨n, Nat.le_trans h1 h, h2⟩
theorem nbd_le {x a b : Nat} (h : a ≤ b) {v : Int32} (q : nbd x a v) : nbd x b v := by
  obtain ⟨n, h1, h2, h3⟩ := q
  exact ⟨n, h1, Nat.le_trans h2 h, h3⟩
theorem zI_of {v : Int32} (h : ¬ v < 0) : ∃ n : Nat, n < 2 ^ 31 ∧ v = nI n := by
  refine ⟨v.toNatClampNeg, ?_, ?_⟩
  · have h1 : v.toInt < 2 ^ 31 := Int32.toInt_lt v
    have h2 : (0 : Int) ≤ v.toInt := by
      have h3 := Int32.not_lt.mp h
      have h4 := Int32.le_iff_toInt_le.mp h3
      simpa using h4
    have h5 : v.toNatClampNeg = v.toInt.toNat := rfl
    omega
  · have h3 := Int32.not_lt.mp h
    have h4 : (0 : Int) ≤ v.toInt := by
      have h4 := Int32.le_iff_toInt_le.mp h3
      simpa using h4
    have h1 : v.toInt < 2 ^ 31 := Int32.toInt_lt v
    have h5 : v.toNatClampNeg = v.toInt.toNat := rfl
    apply Int32.toInt_inj.mp
    rw [nI_toInt (by omega), h5]
    omega
theorem hG_6 (h : 0 < N 0) : hG ad T ea f N mst bst ρ 6 = .inr (0, [.int (ρ 6 0), .ref (ad 20), .int (nI (N 0))]) := by
  have e : hG ad T ea f N mst bst ρ 6 = .inr (0, [.int (ρ 6 0), .ref (if N 0 = 0 then ea else ad 20), .int (nI (N 0))]) := rfl
  rw [e, if_neg (Nat.pos_iff_ne_zero.mp h)]
theorem hG_7 (h : 0 < N 1) : hG ad T ea f N mst bst ρ 7 = .inr (0, [.int (ρ 7 0), .ref (ad 21), .int (nI (N 1))]) := by
  have e : hG ad T ea f N mst bst ρ 7 = .inr (0, [.int (ρ 7 0), .ref (if N 1 = 0 then ea else ad 21), .int (nI (N 1))]) := rfl
  rw [e, if_neg (Nat.pos_iff_ne_zero.mp h)]
theorem hG_8 (h : 0 < N 2) : hG ad T ea f N mst bst ρ 8 = .inr (0, [.int (ρ 8 0), .ref (ad 22), .int (nI (N 2))]) := by
  have e : hG ad T ea f N mst bst ρ 8 = .inr (0, [.int (ρ 8 0), .ref (if N 2 = 0 then ea else ad 22), .int (nI (N 2))]) := rfl
  rw [e, if_neg (Nat.pos_iff_ne_zero.mp h)]
abbrev B4 (ad : Nat → Nat) (T : Nat → ClassId) (N bst : Nat → Nat) (ρ : Nat → Nat → Int32) (i : Nat) : va_W := [(ad 0, .inr (6, hsF ad (ρ 0 0))), (ad 7, .inr (0, [.int (ρ 7 0), .ref (ad 21), .int (nI (N 1))])), (ad 21, .inl (T 3, cap (N 1), qa (liF ad (fun i => 100 + 3 * i) (N 1)))), (ad (100 + 3 * i), .inr (1, biF (ad (101 + 3 * i)) (ad (102 + 3 * i)) (ad (2 + bst i)) (ρ (100 + 3 * i))))]
abbrev B7 (ad : Nat → Nat) (T : Nat → ClassId) (N bst : Nat → Nat) (ρ : Nat → Nat → Int32) (i : Nat) : va_W := B4 ad T N bst ρ i ++ [(ad (101 + 3 * i), .inl (T 0, 8, .inl (ρ (101 + 3 * i)))), (ad (102 + 3 * i), .inl (T 0, 8, .inl (ρ (102 + 3 * i)))), (ad (2 + bst i), .inr (5, [.int (ρ (2 + bst i) 0), .int (ρ (2 + bst i) 1), .int (ρ (2 + bst i) 2)]))]
theorem iw_cons (j : Nat) (js : List Nat) (G : Nat → va_E) : iw (j :: js) ad G = (ad j, G j) :: iw js ad G := rfl
theorem iw_nil (G : Nat → va_E) : iw [] ad G = [] := rfl
theorem b4_iw {i : Nat} (hi : i < 12) (h0 : 0 < N 1) : iw [0, 7, 21, 100 + 3 * i] ad (hG ad T ea f N mst bst ρ) = B4 ad T N bst ρ i := by
  rw [iw_cons, iw_cons, iw_cons, iw_cons, iw_nil, hG_b hi, hG_7 h0]
  rfl
theorem b7_iw {i : Nat} (hi : i < 12) (h0 : 0 < N 1) (hb : bst i < 4) : iw [0, 7, 21, 100 + 3 * i, 101 + 3 * i, 102 + 3 * i, 2 + bst i] ad (hG ad T ea f N mst bst ρ) = B7 ad T N bst ρ i := by
  rw [iw_cons, iw_cons, iw_cons, iw_cons, iw_cons, iw_cons, iw_cons, iw_nil, hG_b hi, hG_7 h0, hG_a hi, hG_q hi, hG_s hb]
  rfl
theorem cap_le {g : Nat} (h : g ≤ 20) : g ≤ cap g ∧ cap g ≤ 40000 := by
  unfold cap
  split
  · omega
  · split <;> omega
theorem nd4 {i : Nat} : [0, 7, 21, 100 + 3 * i].Nodup := by
  simp only [List.nodup_cons, List.mem_cons, List.not_mem_nil, or_false, List.nodup_nil, and_true, not_false_eq_true]
  omega
theorem nd7 {i b : Nat} (hb : b < 4) : [0, 7, 21, 100 + 3 * i, 101 + 3 * i, 102 + 3 * i, 2 + b].Nodup := by
  simp only [List.nodup_cons, List.mem_cons, List.not_mem_nil, or_false, List.nodup_nil, and_true, not_false_eq_true]
  omega
theorem li4 {i : Nat} (hi : i < N 1) : ∀ j ∈ [0, 7, 21, 100 + 3 * i], liv N j := by
  intro j hj
  simp only [List.mem_cons, List.not_mem_nil, or_false] at hj
  unfold liv
  omega
theorem li7 {i b : Nat} (hi : i < N 1) (hb : b < 4) : ∀ j ∈ [0, 7, 21, 100 + 3 * i, 101 + 3 * i, 102 + 3 * i, 2 + b], liv N j := by
  intro j hj
  simp only [List.mem_cons, List.not_mem_nil, or_false] at hj
  unfold liv
  omega
theorem li07 : ∀ j ∈ [0, 7], liv N j := by
  intro j hj
  simp only [List.mem_cons, List.not_mem_nil, or_false] at hj
  unfold liv
  omega
abbrev B8 (ad : Nat → Nat) (T : Nat → ClassId) (N bst : Nat → Nat) (ρ : Nat → Nat → Int32) (i : Nat) : va_W := B7 ad T N bst ρ i ++ [(ad 9, .inl (T 0, 20, .inl (ρ 9)))]
theorem b8_iw (hi : i < 12) (h0 : 0 < N 1) (hb : bst i < 4) : iw [0, 7, 21, 100 + 3 * i, 101 + 3 * i, 102 + 3 * i, 2 + bst i, 9] ad (hG ad T ea f N mst bst ρ) = B8 ad T N bst ρ i := by
  rw [iw_cons, iw_cons, iw_cons, iw_cons, iw_cons, iw_cons, iw_cons, iw_cons, iw_nil, hG_b hi, hG_7 h0, hG_a hi, hG_q hi, hG_s hb]
  rfl
abbrev BT5 (ad : Nat → Nat) (T : Nat → ClassId) (N bst : Nat → Nat) (ρ : Nat → Nat → Int32) (i : Nat) : va_W := B4 ad T N bst ρ i ++ [(ad 9, .inl (T 0, 20, .inl (ρ 9)))]
theorem bt_iw (hi : i < 12) (h0 : 0 < N 1) : iw [0, 7, 21, 100 + 3 * i, 9] ad (hG ad T ea f N mst bst ρ) = BT5 ad T N bst ρ i := by
  rw [iw_cons, iw_cons, iw_cons, iw_cons, iw_cons, iw_nil, hG_b hi, hG_7 h0]
  rfl
theorem ndT : [0, 7, 21, 100 + 3 * i, 9].Nodup := by
  simp only [List.nodup_cons, List.mem_cons, List.not_mem_nil, or_false, List.nodup_nil, and_true, not_false_eq_true]
  omega
theorem liT (hi : i < N 1) : ∀ j ∈ [0, 7, 21, 100 + 3 * i, 9], liv N j := by
  intro j hj
  simp only [List.mem_cons, List.not_mem_nil, or_false] at hj
  unfold liv
  omega
theorem nm1 {n : Nat} (h : n < 2 ^ 31) : ¬ nI n = -1 := nI_nm1 h
theorem isl0 (lo : Int32) : isl (-1) lo = 0 := rfl
theorem isl1 {ld nl : Nat} (h : ld < nl) (hn : nl ≤ 20) : isl (nI ld) (nI nl) = 1 := by
  unfold isl
  rw [if_neg (fun h => nI_pos (show ld < 2 ^ 31 by omega) h), if_pos ((nI_ltI (by omega) (by omega)).mpr h)]
def upB (ρ : Nat → Nat → Int32) (i : Nat) (β α κ : Nat → Int32) : Nat → Nat → Int32 := fun k => if k = 100 + 3 * i then β else if k = 101 + 3 * i then α else if k = 102 + 3 * i then κ else ρ k
theorem upB_b : upB ρ i β α κ (100 + 3 * i) = β := if_pos rfl
theorem upB_a : upB ρ i β α κ (101 + 3 * i) = α := by
  unfold upB
  rw [if_neg (by omega), if_pos rfl]
theorem upB_q : upB ρ i β α κ (102 + 3 * i) = κ := by
  unfold upB
  rw [if_neg (by omega), if_neg (by omega), if_pos rfl]
theorem upB_o {k : Nat} (h1 : k ≠ 100 + 3 * i) (h2 : k ≠ 101 + 3 * i) (h3 : k ≠ 102 + 3 * i) : upB ρ i β α κ k = ρ k := by
  unfold upB
  rw [if_neg h1, if_neg h2, if_neg h3]
abbrev E7 (ad : Nat → Nat) (T : Nat → ClassId) (N bst : Nat → Nat) (ρ : Nat → Nat → Int32) (i : Nat) (β α κ : Nat → Int32) : va_W := [(ad 0, .inr (6, hsF ad (ρ 0 0))), (ad 7, .inr (0, [.int (ρ 7 0), .ref (ad 21), .int (nI (N 1))])), (ad 21, .inl (T 3, cap (N 1), qa (liF ad (fun i => 100 + 3 * i) (N 1)))), (ad (100 + 3 * i), .inr (1, biF (ad (101 + 3 * i)) (ad (102 + 3 * i)) (ad (2 + bst i)) β)), (ad (101 + 3 * i), .inl (T 0, 8, .inl α)), (ad (102 + 3 * i), .inl (T 0, 8, .inl κ)), (ad (2 + bst i), .inr (5, [.int (ρ (2 + bst i) 0), .int (ρ (2 + bst i) 1), .int (ρ (2 + bst i) 2)]))]
theorem E7_up {ad : Nat → Nat} {T : Nat → ClassId} {N bst : Nat → Nat} {ρ : Nat → Nat → Int32} {i : Nat} {β α κ : Nat → Int32} (hb : bst i < 4) : B7 ad T N bst (upB ρ i β α κ) i = E7 ad T N bst ρ i β α κ := by
  show ([(ad 0, .inr (6, hsF ad (upB ρ i β α κ 0 0))), (ad 7, .inr (0, [.int (upB ρ i β α κ 7 0), .ref (ad 21), .int (nI (N 1))])), (ad 21, .inl (T 3, cap (N 1), qa (liF ad (fun i => 100 + 3 * i) (N 1)))), (ad (100 + 3 * i), .inr (1, biF (ad (101 + 3 * i)) (ad (102 + 3 * i)) (ad (2 + bst i)) (upB ρ i β α κ (100 + 3 * i)))), (ad (101 + 3 * i), .inl (T 0, 8, .inl (upB ρ i β α κ (101 + 3 * i)))), (ad (102 + 3 * i), .inl (T 0, 8, .inl (upB ρ i β α κ (102 + 3 * i)))), (ad (2 + bst i), .inr (5, [.int (upB ρ i β α κ (2 + bst i) 0), .int (upB ρ i β α κ (2 + bst i) 1), .int (upB ρ i β α κ (2 + bst i) 2)]))] : va_W) = _
  rw [upB_b, upB_a, upB_q, upB_o (k := 0) (by omega) (by omega) (by omega), upB_o (k := 7) (by omega) (by omega) (by omega), upB_o (k := 2 + bst i) (by omega) (by omega) (by omega)]
theorem div6p : ∀ x, x < 1301 → nI x / 6 = nI (x / 6) ∧ (0 - nI x) / 6 = 0 - nI (x / 6) := by decide +kernel
theorem div4p : ∀ x, x < 1301 → nI x / 4 = nI (x / 4) ∧ (0 - nI x) / 4 = 0 - nI (x / 4) := by decide +kernel
theorem i_negsub (a b : Int32) : a - b = 0 - (b - a) := by rw [Int32.zero_sub, Int32.neg_sub]
theorem i_subneg (a b : Int32) : a + (0 - b) = a - b := by rw [Int32.zero_sub, ← Int32.sub_eq_add_neg]
theorem mixd {d : Int32} {dn : Nat} (hd : ∀ x, x < 1301 → nI x / d = nI (x / dn) ∧ (0 - nI x) / d = 0 - nI (x / dn)) {a b : Nat} (ha : a ≤ 1300) (hb : b ≤ 1300) : nI a + (nI b - nI a) / d = nI (if a ≤ b then a + (b - a) / dn else a - (a - b) / dn) := by
  by_cases h : a ≤ b
  · rw [if_pos h, pk_sub h, (hd (b - a) (by omega)).1, nI_add]
  · rw [if_neg h, i_negsub, pk_sub (show b ≤ a by omega), (hd (a - b) (by omega)).2, i_subneg, pk_sub (Nat.le_trans (Nat.div_le_self _ _) (Nat.sub_le _ _))]
theorem nbd_mix {d : Int32} {dn : Nat} (hd : ∀ x, x < 1301 → nI x / d = nI (x / dn) ∧ (0 - nI x) / d = 0 - nI (x / dn)) {x y : Int32} (hx : nbd 20 1300 x) (hy : nbd 20 1300 y) : nbd 20 1300 (x + (y - x) / d) := by
  obtain ⟨a, a1, a2, rfl⟩ := hx
  obtain ⟨b, b1, b2, rfl⟩ := hy
  refine ⟨if a ≤ b then a + (b - a) / dn else a - (a - b) / dn, ?_, ?_, mixd hd a2 b2⟩
  · have h1 := Nat.div_le_self (b - a) dn
    have h2 := Nat.div_le_self (a - b) dn
    generalize (b - a) / dn = t1 at h1 ⊢
    generalize (a - b) / dn = t2 at h2 ⊢
    split <;> omega
  · have h1 := Nat.div_le_self (b - a) dn
    have h2 := Nat.div_le_self (a - b) dn
    generalize (b - a) / dn = t1 at h1 ⊢
    generalize (a - b) / dn = t2 at h2 ⊢
    split <;> omega
theorem nbd_wrm {x y : Int32} (hx : nbd 20 1300 x) (hy : nbd 20 1300 y) : nbd 20 1300 (wrm x y) := nbd_mix div6p hy hx
theorem nbd_clS {x : Int32} (hx : nbd 20 1300 x) : nbd 20 1300 (clS x) := by
  obtain ⟨a, a1, a2, rfl⟩ := hx
  refine ⟨a - (a - 20) / 10, by omega, by omega, ?_⟩
  unfold clS
  rw [show (20 : Int32) = nI 20 from rfl, pk_sub a1, show (10 : Int32) = nI 10 from rfl, pk_div (by omega) (by decide) (by decide), pk_sub (by omega)]
theorem nbd_cSk {x : Int32} (hx : nbd 20 1300 x) : ∀ n, nbd 20 1300 (cSk x n)
  | 0 => hx
  | n + 1 => nbd_clS (nbd_cSk hx n)
theorem nbd_cCo {x y : Int32} (hx : nbd 20 1300 x) (hy : nbd 20 1300 y) : ∀ n, nbd 20 1300 (cCo x y n)
  | 0 => hy
  | n + 1 => nbd_wrm (nbd_cSk hx (n + 1)) (nbd_cCo hx hy n)
theorem nbd_hSk {g x : Int32} (hg : nbd 20 1300 g) (hx : nbd 20 1300 x) : ∀ n, nbd 20 1300 (hSk g x n)
  | 0 => hx
  | n + 1 => nbd_mix div4p (nbd_hSk hg hx n) hg
theorem nbd_hCo {g x y : Int32} (hg : nbd 20 1300 g) (hx : nbd 20 1300 x) (hy : nbd 20 1300 y) : ∀ n, nbd 20 1300 (hCo g x y n)
  | 0 => hy
  | n + 1 => nbd_wrm (nbd_hSk hg hx (n + 1)) (nbd_hCo hg hx hy n)
theorem imin_n {a b : Nat} (ha : a < 2 ^ 31) (hb : b < 2 ^ 31) : imin (nI a) (nI b) = nI (min a b) := by
  unfold imin
  by_cases h : a < b
  · rw [if_pos ((nI_ltI ha hb).mpr h), Nat.min_eq_left (by omega)]
  · rw [if_neg (fun q => h ((nI_ltI ha hb).mp q)), Nat.min_eq_right (by omega)]
theorem nat_of {v : Int32} {hi : Nat} (h : hi < 2 ^ 31) (h1 : ¬ v < 1) (h2 : v ≤ nI hi) : ∃ n : Nat, 1 ≤ n ∧ n ≤ hi ∧ v = nI n := by
  have h0 : ¬ v < 0 := fun q => h1 (Int32.lt_of_lt_of_le q (by decide))
  obtain ⟨n, hn, rfl⟩ := zI_of h0
  exact ⟨n, (nI_leI (a := 1) (by decide) hn).mp (Int32.not_lt.mp h1), (nI_leI hn h).mp h2, rfl⟩
theorem lapv_comm (a b : Int32) : lapv a b = lapv b a := by
  unfold lapv
  by_cases h1 : 3 * b < a
  · rw [if_pos h1]
    split <;> rfl
  · rw [if_neg h1]
    by_cases h2 : 3 * a < b
    · rw [if_pos h2, if_pos h2]
    · rw [if_neg h2, if_neg h2, if_neg h1]
theorem b5_iw {ad : Nat → Nat} {T : Nat → ClassId} {ea : Nat} {f : Nat → Int64} {N mst bst : Nat → Nat} {ρ : Nat → Nat → Int32} {i : Nat} (hi : i < 12) (h0 : 0 < N 1) (hb : bst i < 4) : iw [0, 7, 21, 100 + 3 * i, 2 + bst i] ad (hG ad T ea f N mst bst ρ) = B4 ad T N bst ρ i ++ [(ad (2 + bst i), .inr (5, [.int (ρ (2 + bst i) 0), .int (ρ (2 + bst i) 1), .int (ρ (2 + bst i) 2)]))] := by
  rw [iw_cons, iw_cons, iw_cons, iw_cons, iw_cons, iw_nil, hG_b hi, hG_7 h0, hG_s hb]
  rfl
theorem nbr_ne (j : Nat) : nbr j ≠ j := by
  unfold nbr
  split <;> omega
theorem ins_out {f : Nat → Int32} {w : Int32} : ∀ (n : Nat) (f : Nat → Int32) (j : Nat), n < j → ins f w n j = f j
  | 0, f, j, h => upd_ne _ _ (by omega)
  | n + 1, f, j, h => by
    rw [ins]
    split
    · rw [ins_out n _ j (by omega) (f := f)]
      exact upd_ne _ _ (by omega)
    · exact upd_ne _ _ (by omega)
theorem ins_all {P : Int32 → Prop} {w : Int32} (hw : P w) : ∀ (n : Nat) (f : Nat → Int32), (∀ j, j < n → P (f j)) → ∀ j, j ≤ n → P (ins f w n j)
  | 0, f, _, j, hj => by
    have e : j = 0 := by omega
    subst e
    rw [ins, upd_same]
    exact hw
  | n + 1, f, h, j, hj => by
    rw [ins]
    split
    · by_cases e : j = n + 1
      · subst e
        rw [ins_out n _ (n + 1) (by omega) (f := f), upd_same]
        exact h n (by omega)
      · exact ins_all hw n _ (fun j hj => by rw [upd_ne _ _ (by omega)]; exact h j (by omega)) j (by omega)
    · by_cases e : j = n + 1
      · subst e
        rw [upd_same]
        exact hw
      · rw [upd_ne _ _ e]
        exact h j (by omega)
theorem ins_sort {w : Int32} : ∀ (n : Nat) (f : Nat → Int32), (∀ a b, a ≤ b → b < n → f a ≤ f b) → ∀ a b, a ≤ b → b ≤ n → ins f w n a ≤ ins f w n b
  | 0, f, _, a, b, h1, h2 => by
    have e : a = 0 := by omega
    have e2 : b = 0 := by omega
    subst e; subst e2
    exact Int32.le_refl _
  | n + 1, f, h, a, b, h1, h2 => by
    rw [ins]
    split
    · next hw =>
      by_cases e : b = n + 1
      · subst e
        by_cases e2 : a = n + 1
        · subst e2
          exact Int32.le_refl _
        · rw [ins_out n _ (n + 1) (by omega) (f := f), upd_same]
          exact ins_all (P := fun x => x ≤ f n) (Int32.le_of_lt hw) n _ (fun j hj => by rw [upd_ne _ _ (by omega)]; exact h j n (by omega) (by omega)) a (by omega)
      · exact ins_sort n _ (fun a b h3 h4 => by rw [upd_ne _ _ (by omega), upd_ne _ _ (by omega)]; exact h a b h3 (by omega)) a b h1 (by omega)
    · next hw =>
      by_cases e : b = n + 1
      · subst e
        by_cases e2 : a = n + 1
        · subst e2
          exact Int32.le_refl _
        · rw [upd_same, upd_ne _ _ e2]
          exact Int32.le_trans (h a n (by omega) (by omega)) (Int32.not_lt.mp hw)
      · rw [upd_ne _ _ e, upd_ne _ _ (by omega)]
        exact h a b h1 (by omega)
theorem neg_tab : ∀ n, n < 1301 → 0 < n → ¬ (0 : Int32) ≤ 0 - nI n := by decide +kernel
abbrev P3 (ad : Nat → Nat) (T : Nat → ClassId) (ρ : Nat → Nat → Int32) : va_W := [(ad 0, .inr (6, hsF ad (ρ 0 0))), (ad 14, .inr (4, [.ref (ad 15), .int (ρ 14 0), .int (ρ 14 1)])), (ad 15, .inl (T 0, 12, .inl (ρ 15)))]
theorem p3_iw : iw [0, 14, 15] ad (hG ad T ea f N mst bst ρ) = P3 ad T ρ := rfl
theorem liP : ∀ j ∈ [0, 14, 15], liv N j := by
  intro j hj
  simp only [List.mem_cons, List.not_mem_nil, or_false] at hj
  unfold liv
  omega
def N4 (N : Nat → Nat) (x : Nat) : Nat → Nat := fun k => if k = 4 then x else N k
theorem hG_N4 {x : Nat} : hG ad T ea f (N4 N x) mst bst ρ = hG ad T ea f N mst bst ρ := rfl
abbrev BQ (ad : Nat → Nat) (T : Nat → ClassId) (N bst : Nat → Nat) (ρ : Nat → Nat → Int32) (i : Nat) (f0 f1 f2 : Nat → Int32) : va_W := B4 ad T N bst ρ i ++ [(ad 10, .inr (3, [.ref (ad 11), .ref (ad 12), .ref (ad 13)])), (ad 11, .inl (T 0, 256, .inl f0)), (ad 12, .inl (T 0, 256, .inl f1)), (ad 13, .inl (T 0, 256, .inl f2))]
def upP (ρ : Nat → Nat → Int32) (f0 f1 f2 : Nat → Int32) : Nat → Nat → Int32 := fun k => if k = 11 then f0 else if k = 12 then f1 else if k = 13 then f2 else ρ k
theorem upP_o {f0 f1 f2 : Nat → Int32} {k : Nat} (h : k < 11 ∨ 13 < k) : upP ρ f0 f1 f2 k = ρ k := by
  unfold upP
  rw [if_neg (by omega), if_neg (by omega), if_neg (by omega)]
theorem bq_iw (hi : i < 12) (h0 : 0 < N 1) : iw [0, 7, 21, 100 + 3 * i, 10, 11, 12, 13] ad (hG ad T ea f N mst bst ρ) = BQ ad T N bst ρ i (ρ 11) (ρ 12) (ρ 13) := by
  rw [iw_cons, iw_cons, iw_cons, iw_cons, iw_cons, iw_cons, iw_cons, iw_cons, iw_nil, hG_b hi, hG_7 h0]
  rfl
abbrev E5 (ad : Nat → Nat) (T : Nat → ClassId) (N : Nat → Nat) (ρ : Nat → Nat → Int32) (d : Nat) (lf : Int32) (γ : Nat → Int32) : va_W := [(ad 0, .inr (6, hsF ad (ρ 0 0))), (ad 8, .inr (0, [.int (ρ 8 0), .ref (ad 22), .int (nI (N 2))])), (ad 22, .inl (T 3, cap (N 2), qa (liF ad (fun i => 200 + 2 * i) (N 2)))), (ad (200 + 2 * d), .inr (2, [.ref (ad (201 + 2 * d)), .int lf])), (ad (201 + 2 * d), .inl (T 0, 8, .inl γ))]
theorem d5_iw {d : Nat} (hd : d < 4) (h0 : 0 < N 2) : iw [0, 8, 22, 200 + 2 * d, 201 + 2 * d] ad (hG ad T ea f N mst bst ρ) = E5 ad T N ρ d (ρ (200 + 2 * d) 0) (ρ (201 + 2 * d)) := by
  rw [iw_cons, iw_cons, iw_cons, iw_cons, iw_cons, iw_nil, hG_d hd, hG_8 h0, hG_e hd]
  rfl
theorem li5 {d : Nat} (hd : d < N 2) : ∀ j ∈ [0, 8, 22, 200 + 2 * d, 201 + 2 * d], liv N j := by
  intro j hj
  simp only [List.mem_cons, List.not_mem_nil, or_false] at hj
  unfold liv
  omega
theorem nd5 {d : Nat} : [0, 8, 22, 200 + 2 * d, 201 + 2 * d].Nodup := by
  simp only [List.nodup_cons, List.mem_cons, List.not_mem_nil, or_false, List.nodup_nil, and_true, not_false_eq_true]
  omega
def upD (ρ : Nat → Nat → Int32) (d : Nat) (lf : Int32) (γ : Nat → Int32) : Nat → Nat → Int32 := fun k => if k = 200 + 2 * d then (fun _ => lf) else if k = 201 + 2 * d then γ else ρ k
theorem upD_o {d : Nat} {lf : Int32} {γ : Nat → Int32} {k : Nat} (h1 : k ≠ 200 + 2 * d) (h2 : k ≠ 201 + 2 * d) : upD ρ d lf γ k = ρ k := by
  unfold upD
  rw [if_neg h1, if_neg h2]
abbrev D4 (ad : Nat → Nat) (T : Nat → ClassId) (N : Nat → Nat) (ρ : Nat → Nat → Int32) (d : Nat) (lf : Int32) : va_W := [(ad 0, .inr (6, hsF ad (ρ 0 0))), (ad 8, .inr (0, [.int (ρ 8 0), .ref (ad 22), .int (nI (N 2))])), (ad 22, .inl (T 3, cap (N 2), qa (liF ad (fun i => 200 + 2 * i) (N 2)))), (ad (200 + 2 * d), .inr (2, [.ref (ad (201 + 2 * d)), .int lf]))]
theorem d4_iw {d : Nat} (hd : d < 4) (h0 : 0 < N 2) : iw [0, 8, 22, 200 + 2 * d] ad (hG ad T ea f N mst bst ρ) = D4 ad T N ρ d (ρ (200 + 2 * d) 0) := by
  rw [iw_cons, iw_cons, iw_cons, iw_cons, iw_nil, hG_d hd, hG_8 h0]
  rfl
theorem lif3 : ∀ n, n < 101 → lifv (nI n) 3 = nI (n - 3) ∧ (if 0 < nI n - 3 then nI n - 3 else 0) = nI (n - 3) := by decide +kernel
theorem lif1 : ∀ n, n < 101 → lifv (nI n) 1 = nI (n - 1) ∧ (if 0 < nI n - 1 then nI n - 1 else 0) = nI (n - 1) := by decide +kernel
theorem KA_at (γ α : Nat → Int32) {j : Nat} (hj : j < 8) : KA γ α j = γ j := by
  rw [KA_eq]
  have key : ∀ n, j < n → flK γ α n j = γ j := by
    intro n
    induction n with
    | zero => intro h; omega
    | succ n ih =>
      intro h
      rw [flK, Nat.zero_add]
      by_cases e : j = n
      · rw [e, upd_same]
      · rw [upd_ne _ _ e]
        exact ih (by omega)
  exact key 8 hj
abbrev P11 (ad : Nat → Nat) (T : Nat → ClassId) (N bst : Nat → Nat) (ρ : Nat → Nat → Int32) (i d : Nat) (β α κ : Nat → Int32) (lf : Int32) : va_W := E7 ad T N bst ρ i β α κ ++ [(ad 8, .inr (0, [.int (ρ 8 0), .ref (ad 22), .int (nI (N 2))])), (ad 22, .inl (T 3, cap (N 2), qa (liF ad (fun i => 200 + 2 * i) (N 2)))), (ad (200 + 2 * d), .inr (2, [.ref (ad (201 + 2 * d)), .int lf])), (ad (201 + 2 * d), .inl (T 0, 8, .inl (ρ (201 + 2 * d))))]
abbrev jsP (bst : Nat → Nat) (i d : Nat) : List Nat := [0, 7, 21, 100 + 3 * i, 101 + 3 * i, 102 + 3 * i, 2 + bst i, 8, 22, 200 + 2 * d, 201 + 2 * d]
theorem p11_iw (hi : i < 12) (h0 : 0 < N 1) (hb : bst i < 4) (hd : d < 4) (h2 : 0 < N 2) : iw (jsP bst i d) ad (hG ad T ea f N mst bst ρ) = P11 ad T N bst ρ i d (ρ (100 + 3 * i)) (ρ (101 + 3 * i)) (ρ (102 + 3 * i)) (ρ (200 + 2 * d) 0) := by
  unfold jsP
  rw [iw_cons, iw_cons, iw_cons, iw_cons, iw_cons, iw_cons, iw_cons, iw_cons, iw_cons, iw_cons, iw_cons, iw_nil, hG_b hi, hG_7 h0, hG_a hi, hG_q hi, hG_s hb, hG_d hd, hG_8 h2, hG_e hd]
  rfl
def upP9 (ρ : Nat → Nat → Int32) (i d : Nat) (β α κ : Nat → Int32) (lf : Int32) : Nat → Nat → Int32 := upR (upB ρ i β α κ) (200 + 2 * d) (fun _ => lf)
end PICK
