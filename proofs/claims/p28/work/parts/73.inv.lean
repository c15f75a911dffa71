/-! ===== what holds of the class alone ===== -/
def nof : Nat → Int64 := fun _ => 0
def pop (p : Nat) : Nat := p % 2 + p / 2 % 2 + p / 4 % 2 + p / 8 % 2 + p / 16 % 2 + p / 32 % 2 + p / 64 % 2 + p / 128 % 2
def LDc (n3 : Nat) (β κ : Nat → Int32) : Prop := β 14 = -1 ∨ ∃ ld, ld < n3 ∧ β 14 = nI ld ∧ nbd 100 700 (β 16) ∧ ∀ j, j < 8 → nbd 0 70 (κ j)
def VLc (β α : Nat → Int32) (A : Nat) : Prop := ∃ v x y z : Nat, vS α v ∧ β 4 = nI x ∧ β 5 = nI y ∧ β 6 = nI z ∧ v + x + y + z = 8 * A
def BIc (C n0 n3 : Nat) (mst : Nat → Nat) (b9 : Nat) (β α κ : Nat → Int32) (ai ci : Int32) : Prop :=
  (∃ mo, mo < n0 ∧ β 0 = nI mo ∧ b9 = mst mo) ∧ (∃ A : Nat, A ≤ 61 ∧ ai = nI A ∧ β 3 = nI (8 * A) ∧ VLc β α A) ∧ nbd 20 1300 (β 7) ∧ nbd 20 1300 (β 8) ∧ (β 9 = ci ∧ nbd 0 9 (β 9)) ∧ nbd 5 200 (β 10) ∧ nbd 0 C (β 11) ∧ (β 12 = 0 ∨ β 12 = 1) ∧ (∃ p, p < 256 ∧ pop p = 4 ∧ β 13 = nI p) ∧ LDc n3 β κ ∧ (β 17 = 0 ∨ β 17 = 1)
def CJ (J : List Nat) (N : Nat → Nat) : Prop := J.Nodup ∧ (∀ j, j ∈ J ↔ liv N j) ∧ N 0 ≤ 20 ∧ N 1 ≤ 12 ∧ N 2 ≤ 4
def SSc (r : Nat → Int32) : Prop := nbd 1 9 (r 0) ∧ nbd 20 70 (r 1) ∧ nbd 0 9 (r 2)
def DDc (r γ : Nat → Int32) : Prop := nbd 0 100 (r 0) ∧ dA γ
def QJc (n4 : Nat) (r w : Nat → Int32) : Prop := n4 ≤ 12 ∧ r 0 = nI n4 ∧ nbd 200 1300 (r 1) ∧ (∀ k, k < n4 → nbd 200 1300 (w k)) ∧ ∀ a b, a ≤ b → b < n4 → w a ≤ w b
def Inv (C : Nat) (J : List Nat) (N mst bst : Nat → Nat) (ρ : Nat → Nat → Int32) (a c : Nat → Int32) : Prop :=
  CJ J N ∧ (∀ s, s < 4 → SSc (ρ (2 + s))) ∧ (∀ m, m < N 0 → mst m < 4) ∧ (N 3 ≤ 20 ∧ ρ 0 0 = nI (N 3)) ∧ (∀ d, d < N 2 → DDc (ρ (200 + 2 * d)) (ρ (201 + 2 * d))) ∧ QJc (N 4) (ρ 14) (ρ 15) ∧ (∀ i, i < N 1 → BIc C (N 0) (N 3) mst (bst i) (ρ (100 + 3 * i)) (ρ (101 + 3 * i)) (ρ (102 + 3 * i)) (a i) (c i)) ∧ ∀ i, N 1 ≤ i → i < 12 → c i = 0
theorem BIc_le {C C' n0 n3 : Nat} (hC : C ≤ C') {mst : Nat → Nat} {b9 : Nat} {β α κ : Nat → Int32} {ai ci : Int32} (h : BIc C n0 n3 mst b9 β α κ ai ci) : BIc C' n0 n3 mst b9 β α κ ai ci := by
  obtain ⟨h1, h2, h3, h4, h5, h6, h7, h8⟩ := h
  exact ⟨h1, h2, h3, h4, h5, h6, nbd_le hC h7, h8⟩
section INV
variable {C C' : Nat} {J : List Nat} {N mst bst : Nat → Nat} {ρ ρ' : Nat → Nat → Int32} {a c c' : Nat → Int32} {i : Nat}
theorem I_le (hC : C ≤ C') (hI : Inv C J N mst bst ρ a c) : Inv C' J N mst bst ρ a c := by
  obtain ⟨h1, h2, h3, h4, h5, h6, h7, h8⟩ := hI
  exact ⟨h1, h2, h3, h4, h5, h6, fun i hi => BIc_le hC (h7 i hi), h8⟩
/-- rows that don't count -/
theorem I_irr (hI : Inv C J N mst bst ρ a c) (hr : ∀ j, j ≠ 9 → j ≠ 11 → j ≠ 12 → j ≠ 13 → ρ' j = ρ j) : Inv C J N mst bst ρ' a c := by
  obtain ⟨h1, h2, h3, h4, h5, h6, h7, h8⟩ := hI
  have e : ∀ j, j < 9 ∨ 13 < j → ρ' j = ρ j := fun j h => hr j (by omega) (by omega) (by omega) (by omega)
  refine ⟨h1, fun s hs => ?_, h3, ?_, fun d hd => ?_, ?_, fun i hi => ?_, h8⟩
  · rw [e (2 + s) (by omega)]
    exact h2 s hs
  · rw [e 0 (by omega)]
    exact h4
  · rw [e (200 + 2 * d) (by omega), e (201 + 2 * d) (by omega)]
    exact h5 d hd
  · rw [e 14 (by omega), e 15 (by omega)]
    exact h6
  · rw [e (100 + 3 * i) (by omega), e (101 + 3 * i) (by omega), e (102 + 3 * i) (by omega)]
    exact h7 i hi
/-- one billet is changed -/
theorem I_bil (hC : C ≤ C') (hi : i < N 1) (hI : Inv C J N mst bst ρ a c) (hr : ∀ j, j ≠ 100 + 3 * i → j ≠ 101 + 3 * i → j ≠ 102 + 3 * i → ρ' j = ρ j) (hc : ∀ k, k ≠ i → c' k = c k)
    (hB : BIc C' (N 0) (N 3) mst (bst i) (ρ' (100 + 3 * i)) (ρ' (101 + 3 * i)) (ρ' (102 + 3 * i)) (a i) (c' i)) : Inv C' J N mst bst ρ' a c' := by
  obtain ⟨h1, h2, h3, h4, h5, h6, h7, h8⟩ := hI
  have hN := h1.2.2.2.1
  refine ⟨h1, fun s hs => ?_, h3, ?_, fun d hd => ?_, ?_, fun k hk => ?_, fun k hk hk2 => ?_⟩
  · rw [hr (2 + s) (by omega) (by omega) (by omega)]
    exact h2 s hs
  · rw [hr 0 (by omega) (by omega) (by omega)]
    exact h4
  · rw [hr (200 + 2 * d) (by omega) (by omega) (by omega), hr (201 + 2 * d) (by omega) (by omega) (by omega)]
    exact h5 d hd
  · rw [hr 14 (by omega) (by omega) (by omega), hr 15 (by omega) (by omega) (by omega)]
    exact h6
  · by_cases e : k = i
    · rw [e]
      exact hB
    · rw [hr (100 + 3 * k) (by omega) (by omega) (by omega), hr (101 + 3 * k) (by omega) (by omega) (by omega), hr (102 + 3 * k) (by omega) (by omega) (by omega), hc k e]
      exact BIc_le hC (h7 k hk)
  · rw [hc k (by omega)]
    exact h8 k hk hk2
theorem I_upB (hC : C ≤ C') (hi : i < N 1) (hI : Inv C J N mst bst ρ a c) {β α κ : Nat → Int32} (hc : ∀ k, k ≠ i → c' k = c k) (hB : BIc C' (N 0) (N 3) mst (bst i) β α κ (a i) (c' i)) : Inv C' J N mst bst (upB ρ i β α κ) a c' :=
  I_bil hC hi hI (fun j h1 h2 h3 => upB_o h1 h2 h3) hc (by rw [upB_b, upB_a, upB_q]; exact hB)
/-- one die is changed -/
theorem I_die {d : Nat} (hd : d < N 2) (hI : Inv C J N mst bst ρ a c) (hr : ∀ j, j ≠ 200 + 2 * d → j ≠ 201 + 2 * d → ρ' j = ρ j) (hD : DDc (ρ' (200 + 2 * d)) (ρ' (201 + 2 * d))) : Inv C J N mst bst ρ' a c := by
  obtain ⟨h1, h2, h3, h4, h5, h6, h7, h8⟩ := hI
  have hN := h1.2.2.2.2
  have hN1 := h1.2.2.2.1
  refine ⟨h1, fun s hs => ?_, h3, ?_, fun k hk => ?_, ?_, fun k hk => ?_, h8⟩
  · rw [hr (2 + s) (by omega) (by omega)]
    exact h2 s hs
  · rw [hr 0 (by omega) (by omega)]
    exact h4
  · by_cases e : k = d
    · rw [e]
      exact hD
    · rw [hr (200 + 2 * k) (by omega) (by omega), hr (201 + 2 * k) (by omega) (by omega)]
      exact h5 k hk
  · rw [hr 14 (by omega) (by omega), hr 15 (by omega) (by omega)]
    exact h6
  · rw [hr (100 + 3 * k) (by omega) (by omega), hr (101 + 3 * k) (by omega) (by omega), hr (102 + 3 * k) (by omega) (by omega)]
    exact h7 k hk
/-- a steel is told -/
theorem I_steel {s : Nat} (hs : s < 4) (hI : Inv C J N mst bst ρ a c) (hr : ∀ j, j ≠ 2 + s → ρ' j = ρ j) (hS : SSc (ρ' (2 + s))) : Inv C J N mst bst ρ' a c := by
  obtain ⟨h1, h2, h3, h4, h5, h6, h7, h8⟩ := hI
  refine ⟨h1, fun k hk => ?_, h3, ?_, fun k hk => ?_, ?_, fun k hk => ?_, h8⟩
  · by_cases e : k = s
    · rw [e]
      exact hS
    · rw [hr (2 + k) (by omega)]
      exact h2 k hk
  · rw [hr 0 (by omega)]
    exact h4
  · rw [hr (200 + 2 * k) (by omega), hr (201 + 2 * k) (by omega)]
    exact h5 k hk
  · rw [hr 14 (by omega), hr 15 (by omega)]
    exact h6
  · rw [hr (100 + 3 * k) (by omega), hr (101 + 3 * k) (by omega), hr (102 + 3 * k) (by omega)]
    exact h7 k hk
/-- the plan -/
theorem I_plan {n4 : Nat} (hI : Inv C J N mst bst ρ a c) (hr : ∀ j, j ≠ 14 → j ≠ 15 → ρ' j = ρ j) (hQ : QJc n4 (ρ' 14) (ρ' 15)) : Inv C J (N4 N n4) mst bst ρ' a c := by
  obtain ⟨h1, h2, h3, h4, h5, h6, h7, h8⟩ := hI
  have e0 : N4 N n4 0 = N 0 := rfl
  have e1 : N4 N n4 1 = N 1 := rfl
  have e2 : N4 N n4 2 = N 2 := rfl
  have e3 : N4 N n4 3 = N 3 := rfl
  have e4 : N4 N n4 4 = n4 := rfl
  refine ⟨⟨h1.1, fun j => ?_, h1.2.2⟩, fun k hk => ?_, h3, ?_, fun k hk => ?_, ?_, fun k hk => ?_, h8⟩
  · rw [h1.2.1 j]
    exact Iff.rfl
  · rw [hr (2 + k) (by omega) (by omega)]
    exact h2 k hk
  · rw [hr 0 (by omega) (by omega)]
    exact h4
  · rw [hr (200 + 2 * k) (by omega) (by omega), hr (201 + 2 * k) (by omega) (by omega)]
    exact h5 k hk
  · rw [e4]
    exact hQ
  · rw [hr (100 + 3 * k) (by omega) (by omega), hr (101 + 3 * k) (by omega) (by omega), hr (102 + 3 * k) (by omega) (by omega)]
    exact h7 k hk
theorem I_N1 (hI : Inv C J N mst bst ρ a c) : N 1 ≤ 12 := hI.1.2.2.2.1
theorem I_liB (hI : Inv C J N mst bst ρ a c) (hi : i < N 1) : i < 12 ∧ N 1 ≤ cap (N 1) ∧ cap (N 1) ≤ 40000 := ⟨Nat.lt_of_lt_of_le hi (I_N1 hI), (cap_le (Nat.le_trans (I_N1 hI) (by decide))).1, (cap_le (Nat.le_trans (I_N1 hI) (by decide))).2⟩
theorem I_B (hI : Inv C J N mst bst ρ a c) (hi : i < N 1) : BIc C (N 0) (N 3) mst (bst i) (ρ (100 + 3 * i)) (ρ (101 + 3 * i)) (ρ (102 + 3 * i)) (a i) (c i) := hI.2.2.2.2.2.2.1 i hi
theorem I_b4 (hI : Inv C J N mst bst ρ a c) (hi : i < N 1) : bst i < 4 := by
  obtain ⟨mo, h1, -, h2⟩ := (I_B hI hi).1
  rw [h2]
  exact hI.2.2.1 mo h1
end INV
/-! the helpers' contracts, over the whole world -/
abbrev hR9 : Room := zrmc 8 300 5 70
abbrev HC (l : Launch) (D : va_G) (T : Nat → ClassId) (ea mi : Nat) (sa : Nat → Nat) (cy : MethodName) (cws : List Cond) (lw : va_W) (J : List Nat) (ad : Nat → Nat) (N mst bst : Nat → Nat) (ρ : Nat → Nat → Int32) (N' : Nat → Nat) (ρ' : Nat → Nat → Int32) (las : List Value) (k : Int32) : Prop :=
  ZIH l cy cws hR9 (zX ea mi sa) D T (S := Unit) (lw ++ iw J ad (hG ad T ea nof N mst bst ρ)) (fun _ => lw ++ iw J ad (hG ad T ea nof N' mst bst ρ')) las k 5 70
section HCS
variable {l : Launch} {D : va_G} {T : Nat → ClassId} {ea mi : Nat} {sa : Nat → Nat} {cy : MethodName} {cws : List Cond} {las : List Value} {k : Int32} {rm : Room} {mc ms : Nat}
variable {C : Nat} {ad : Nat → Nat} {J : List Nat} {N N' mst bst : Nat → Nat} {ρ ρ' : Nat → Nat → Int32} {a c : Nat → Int32} {i : Nat}
theorem liv_16 : ¬ liv N 16 := by
  unfold liv
  omega
theorem hc_js (hJ : CJ J N) {js : List Nat} (hjs : js.Nodup) (hl : ∀ j ∈ js, liv N j) {W0 W1 : va_W} (e0 : iw js ad (hG ad T ea nof N mst bst ρ) = W0) (e1 : iw js ad (hG ad T ea nof N' mst bst ρ') = W1) (hr : ∀ j, j ∈ J → j ∉ js → hG ad T ea nof N' mst bst ρ' j = hG ad T ea nof N mst bst ρ j)
    (hw : ZIH l cy cws rm (zX ea mi sa) D T (S := Unit) W0 (fun _ => W1) las k mc ms) (hrm : rm.frames ≤ 8 ∧ rm.locals ≤ 300 ∧ rm.cells ≤ 5 ∧ rm.slots ≤ 70) (hm : mc ≤ 5 ∧ ms ≤ 70) (lw : va_W) : HC l D T ea mi sa cy cws lw J ad N mst bst ρ N' ρ' las k := by
  subst e0; subst e1
  have f := fr_iw (zX_k ea mi sa) (S := Unit) (J := J) (js := js) (ad := ad) (G := hG ad T ea nof N mst bst ρ) (wG := fun _ => iw js ad (hG ad T ea nof N' mst bst ρ')) hw hJ.1 hjs (fun j hj => (hJ.2.1 j).mpr (hl j hj)) (fun _ => hG ad T ea nof N' mst bst ρ') (fun _ => []) (fun _ => (List.append_nil _).symm) (fun _ j hj hn => hr j hj hn)
  obtain ⟨is, h1, h2, h3⟩ := mid_put4 lw (iw J ad (hG ad T ea nof N mst bst ρ))
  refine zIH_room (zIH_frame (zX_k ea mi sa) f is h1 h2 (fun _ j hj => ?_) (fun _ => ?_) (fun _ => ?_)) hrm hm
  · rw [List.append_nil]
    unfold iw
    rw [List.map_map, List.map_map]
    rfl
  · rw [List.append_nil]
    unfold iw
    rw [List.length_map, List.length_map]
    exact Nat.le_refl _
  · rw [List.append_nil]
    refine h3 _ ?_
    unfold iw
    rw [List.length_map, List.length_map]
    exact Nat.le_refl _
theorem hc_jr (hJ : CJ J N) {js : List Nat} (hjs : js.Nodup) (hl : ∀ j ∈ js, liv N j) {W0 W1 : va_W} (e0 : iw js ad (hG ad T ea nof N mst bst ρ) = W0) (e1 : iw js ad (hG ad T ea nof N mst bst ρ') = W1) (hr : ∀ j, j ∉ js → ρ' j = ρ j)
    (hw : ZIH l cy cws rm (zX ea mi sa) D T (S := Unit) W0 (fun _ => W1) las k mc ms) (hrm : rm.frames ≤ 8 ∧ rm.locals ≤ 300 ∧ rm.cells ≤ 5 ∧ rm.slots ≤ 70) (hm : mc ≤ 5 ∧ ms ≤ 70) (lw : va_W) : HC l D T ea mi sa cy cws lw J ad N mst bst ρ N ρ' las k :=
  hc_js hJ hjs hl e0 e1 (fun j hj hn => hG_row (hr j hn) (fun e => liv_16 ((hJ.2.1 16).mp (by rw [← e]; exact hj)))) hw hrm hm lw
theorem hc4 (hI : Inv C J N mst bst ρ a c) (hi : i < N 1) (hw : ZIH l cy cws rm (zX ea mi sa) D T (S := Unit) (B4 ad T N bst ρ i) (fun _ => B4 ad T N bst ρ i) las k mc ms) (hrm : rm.frames ≤ 8 ∧ rm.locals ≤ 300 ∧ rm.cells ≤ 5 ∧ rm.slots ≤ 70) (hm : mc ≤ 5 ∧ ms ≤ 70) (lw : va_W) : HC l D T ea mi sa cy cws lw J ad N mst bst ρ N ρ las k :=
  hc_jr hI.1 nd4 (li4 hi) (b4_iw (I_liB hI hi).1 (Nat.lt_of_le_of_lt (Nat.zero_le i) hi)) (b4_iw (I_liB hI hi).1 (Nat.lt_of_le_of_lt (Nat.zero_le i) hi)) (fun _ _ => rfl) hw hrm hm lw
theorem hc7 (hI : Inv C J N mst bst ρ a c) (hi : i < N 1) (hw : ZIH l cy cws rm (zX ea mi sa) D T (S := Unit) (B7 ad T N bst ρ i) (fun _ => B7 ad T N bst ρ i) las k mc ms) (hrm : rm.frames ≤ 8 ∧ rm.locals ≤ 300 ∧ rm.cells ≤ 5 ∧ rm.slots ≤ 70) (hm : mc ≤ 5 ∧ ms ≤ 70) (lw : va_W) : HC l D T ea mi sa cy cws lw J ad N mst bst ρ N ρ las k :=
  hc_jr hI.1 (nd7 (I_b4 hI hi)) (li7 hi (I_b4 hI hi)) (b7_iw (I_liB hI hi).1 (Nat.lt_of_le_of_lt (Nat.zero_le i) hi) (I_b4 hI hi)) (b7_iw (I_liB hI hi).1 (Nat.lt_of_le_of_lt (Nat.zero_le i) hi) (I_b4 hI hi)) (fun _ _ => rfl) hw hrm hm lw
/-- the billet's cells become those of β, α, κ -/
theorem hcU (hI : Inv C J N mst bst ρ a c) (hi : i < N 1) {β α κ : Nat → Int32} (hw : ZIH l cy cws rm (zX ea mi sa) D T (S := Unit) (B7 ad T N bst ρ i) (fun _ => E7 ad T N bst ρ i β α κ) las k mc ms) (hrm : rm.frames ≤ 8 ∧ rm.locals ≤ 300 ∧ rm.cells ≤ 5 ∧ rm.slots ≤ 70) (hm : mc ≤ 5 ∧ ms ≤ 70) (lw : va_W) : HC l D T ea mi sa cy cws lw J ad N mst bst ρ N (upB ρ i β α κ) las k := by
  refine hc_jr hI.1 (nd7 (I_b4 hI hi)) (li7 hi (I_b4 hI hi)) (b7_iw (I_liB hI hi).1 (Nat.lt_of_le_of_lt (Nat.zero_le i) hi) (I_b4 hI hi)) ((b7_iw (I_liB hI hi).1 (Nat.lt_of_le_of_lt (Nat.zero_le i) hi) (I_b4 hI hi)).trans (E7_up (I_b4 hI hi))) (fun j hj => ?_) hw hrm hm lw
  simp only [List.mem_cons, List.not_mem_nil, or_false, not_or] at hj
  exact upB_o hj.2.2.2.1 hj.2.2.2.2.1 hj.2.2.2.2.2.1
theorem nd8 {b : Nat} (hb : b < 4) : [0, 7, 21, 100 + 3 * i, 101 + 3 * i, 102 + 3 * i, 2 + b, 9].Nodup := by
  simp only [List.nodup_cons, List.mem_cons, List.not_mem_nil, or_false, List.nodup_nil, and_true, not_false_eq_true]
  omega
theorem li8 {b : Nat} (hi : i < N 1) (hb : b < 4) : ∀ j ∈ [0, 7, 21, 100 + 3 * i, 101 + 3 * i, 102 + 3 * i, 2 + b, 9], liv N j := by
  intro j hj
  simp only [List.mem_cons, List.not_mem_nil, or_false] at hj
  unfold liv
  omega
/-- with the test pieces' row -/
theorem hcU8 (hI : Inv C J N mst bst ρ a c) (hi : i < N 1) {β α κ tm : Nat → Int32} (hw : ZIH l cy cws rm (zX ea mi sa) D T (S := Unit) (B8 ad T N bst ρ i) (fun _ => E7 ad T N bst ρ i β α κ ++ [(ad 9, .inl (T 0, 20, .inl tm))]) las k mc ms) (hrm : rm.frames ≤ 8 ∧ rm.locals ≤ 300 ∧ rm.cells ≤ 5 ∧ rm.slots ≤ 70) (hm : mc ≤ 5 ∧ ms ≤ 70) (lw : va_W) : HC l D T ea mi sa cy cws lw J ad N mst bst ρ N (upR (upB ρ i β α κ) 9 tm) las k := by
  have hu : ∀ j, j ≠ 9 → upR (upB ρ i β α κ) 9 tm j = upB ρ i β α κ j := fun j hj => upR_ne _ _ hj
  refine hc_jr hI.1 (nd8 (I_b4 hI hi)) (li8 hi (I_b4 hI hi)) (b8_iw (I_liB hI hi).1 (Nat.lt_of_le_of_lt (Nat.zero_le i) hi) (I_b4 hI hi)) ((b8_iw (I_liB hI hi).1 (Nat.lt_of_le_of_lt (Nat.zero_le i) hi) (I_b4 hI hi)).trans ?_) (fun j hj => ?_) hw hrm hm lw
  · rw [← E7_up (I_b4 hI hi)]
    have hb4 := I_b4 hI hi
    unfold B8 B7 B4
    rw [upR_at, hu 0 (by decide), hu 7 (by decide), hu (100 + 3 * i) (by omega), hu (101 + 3 * i) (by omega), hu (102 + 3 * i) (by omega), hu (2 + bst i) (by omega)]
  · simp only [List.mem_cons, List.not_mem_nil, or_false, not_or] at hj
    exact (hu j hj.2.2.2.2.2.2.2).trans (upB_o hj.2.2.2.1 hj.2.2.2.2.1 hj.2.2.2.2.2.1)
theorem hc8 (hI : Inv C J N mst bst ρ a c) (hi : i < N 1) (hw : ZIH l cy cws rm (zX ea mi sa) D T (S := Unit) (B8 ad T N bst ρ i) (fun _ => B8 ad T N bst ρ i) las k mc ms) (hrm : rm.frames ≤ 8 ∧ rm.locals ≤ 300 ∧ rm.cells ≤ 5 ∧ rm.slots ≤ 70) (hm : mc ≤ 5 ∧ ms ≤ 70) (lw : va_W) : HC l D T ea mi sa cy cws lw J ad N mst bst ρ N ρ las k :=
  hc_jr hI.1 (nd8 (I_b4 hI hi)) (li8 hi (I_b4 hI hi)) (b8_iw (I_liB hI hi).1 (Nat.lt_of_le_of_lt (Nat.zero_le i) hi) (I_b4 hI hi)) (b8_iw (I_liB hI hi).1 (Nat.lt_of_le_of_lt (Nat.zero_le i) hi) (I_b4 hI hi)) (fun _ _ => rfl) hw hrm hm lw
theorem hcT (hI : Inv C J N mst bst ρ a c) (hi : i < N 1) (hw : ZIH l cy cws rm (zX ea mi sa) D T (S := Unit) (BT5 ad T N bst ρ i) (fun _ => BT5 ad T N bst ρ i) las k mc ms) (hrm : rm.frames ≤ 8 ∧ rm.locals ≤ 300 ∧ rm.cells ≤ 5 ∧ rm.slots ≤ 70) (hm : mc ≤ 5 ∧ ms ≤ 70) (lw : va_W) : HC l D T ea mi sa cy cws lw J ad N mst bst ρ N ρ las k :=
  hc_jr hI.1 ndT (liT hi) (bt_iw (I_liB hI hi).1 (Nat.lt_of_le_of_lt (Nat.zero_le i) hi)) (bt_iw (I_liB hI hi).1 (Nat.lt_of_le_of_lt (Nat.zero_le i) hi)) (fun _ _ => rfl) hw hrm hm lw
end HCS
