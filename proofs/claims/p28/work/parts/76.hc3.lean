/-! ===== the helpers over the whole world: dies, the press, steels, plans ===== -/
section HC3
variable {l : Launch} {D : va_G} {T : Nat → ClassId} {ea mi : Nat} {sa : Nat → Nat}
variable {C : Nat} {ad : Nat → Nat} {J : List Nat} {N mst bst : Nat → Nat} {ρ : Nat → Nat → Int32} {a c : Nat → Int32} {i d : Nat}
theorem I_D (hI : Inv C J N mst bst ρ a c) (hd : d < N 2) : DDc (ρ (200 + 2 * d)) (ρ (201 + 2 * d)) := hI.2.2.2.2.1 d hd
theorem I_d4 (hI : Inv C J N mst bst ρ a c) (hd : d < N 2) : d < 4 ∧ 0 < N 2 ∧ N 2 ≤ cap (N 2) ∧ cap (N 2) ≤ 40000 := ⟨Nat.lt_of_lt_of_le hd hI.1.2.2.2.2, Nat.lt_of_le_of_lt (Nat.zero_le d) hd, (cap_le (Nat.le_trans hI.1.2.2.2.2 (by decide))).1, (cap_le (Nat.le_trans hI.1.2.2.2.2 (by decide))).2⟩
theorem hcD {cy : MethodName} {cws : List Cond} {las : List Value} {k : Int32} {rm : Room} {mc ms : Nat} (hI : Inv C J N mst bst ρ a c) (hd : d < N 2) {lf : Int32} {γ : Nat → Int32} (hw : ZIH l cy cws rm (zX ea mi sa) D T (S := Unit) (E5 ad T N ρ d (ρ (200 + 2 * d) 0) (ρ (201 + 2 * d))) (fun _ => E5 ad T N ρ d lf γ) las k mc ms) (hrm : rm.frames ≤ 8 ∧ rm.locals ≤ 300 ∧ rm.cells ≤ 5 ∧ rm.slots ≤ 70) (hm : mc ≤ 5 ∧ ms ≤ 70) (lw : va_W) : HC l D T ea mi sa cy cws lw J ad N mst bst ρ N (upD ρ d lf γ) las k := by
  obtain ⟨d4, d0, -, -⟩ := I_d4 hI hd
  refine hc_jr hI.1 nd5 (li5 hd) (d5_iw d4 d0) ((d5_iw d4 d0).trans ?_) (fun j hj => ?_) hw hrm hm lw
  · have e1 : upD ρ d lf γ (200 + 2 * d) = fun _ => lf := if_pos rfl
    have e2 : upD ρ d lf γ (201 + 2 * d) = γ := by
      unfold upD
      rw [if_neg (by omega), if_pos rfl]
    unfold E5
    rw [e1, e2, upD_o (k := 0) (by omega) (by omega), upD_o (k := 8) (by omega) (by omega)]
  · simp only [List.mem_cons, List.not_mem_nil, or_false, not_or] at hj
    exact upD_o hj.2.2.2.1 hj.2.2.2.2
theorem nd4d : [0, 8, 22, 200 + 2 * d].Nodup := by
  simp only [List.nodup_cons, List.mem_cons, List.not_mem_nil, or_false, List.nodup_nil, and_true, not_false_eq_true]
  omega
theorem li4d (hd : d < N 2) : ∀ j ∈ [0, 8, 22, 200 + 2 * d], liv N j := by
  intro j hj
  simp only [List.mem_cons, List.not_mem_nil, or_false] at hj
  unfold liv
  omega
theorem hcD4 {cy : MethodName} {cws : List Cond} {las : List Value} {k : Int32} {rm : Room} {mc ms : Nat} (hI : Inv C J N mst bst ρ a c) (hd : d < N 2) {lf : Int32} (hw : ZIH l cy cws rm (zX ea mi sa) D T (S := Unit) (D4 ad T N ρ d (ρ (200 + 2 * d) 0)) (fun _ => D4 ad T N ρ d lf) las k mc ms) (hrm : rm.frames ≤ 8 ∧ rm.locals ≤ 300 ∧ rm.cells ≤ 5 ∧ rm.slots ≤ 70) (hm : mc ≤ 5 ∧ ms ≤ 70) (lw : va_W) : HC l D T ea mi sa cy cws lw J ad N mst bst ρ N (upR ρ (200 + 2 * d) (fun _ => lf)) las k := by
  obtain ⟨d4, d0, -, -⟩ := I_d4 hI hd
  refine hc_jr hI.1 nd4d (li4d hd) (d4_iw d4 d0) ((d4_iw d4 d0).trans ?_) (fun j hj => ?_) hw hrm hm lw
  · unfold D4
    rw [upR_at, upR_ne _ _ (show 0 ≠ 200 + 2 * d by omega), upR_ne _ _ (show 8 ≠ 200 + 2 * d by omega)]
  · simp only [List.mem_cons, List.not_mem_nil, or_false, not_or] at hj
    exact upR_ne _ _ hj.2.2.2
theorem hc_shape (hI : Inv C J N mst bst ρ a c) (hd : d < N 2) {j w : Nat} (hj : j < 8) (h1 : 1 ≤ w) (h2 : w ≤ 400) : (∀ lw, HC l D T ea mi sa yL_shape wsL_shape lw J ad N mst bst ρ N (upD ρ d (ρ (200 + 2 * d) 0) (upd (ρ (201 + 2 * d)) j (nI w))) [.ref (ad 0), .int (nI d), .int (nI j), .int (nI w)] (ρ (201 + 2 * d) j)) ∧ Inv C J N mst bst (upD ρ d (ρ (200 + 2 * d) 0) (upd (ρ (201 + 2 * d)) j (nI w))) a c := by
  obtain ⟨d4, d0, e1, e2⟩ := I_d4 hI hd
  obtain ⟨g1, g2⟩ := I_D hI hd
  have m1 : ¬ nI w < 1 := fun q => absurd ((nI_ltI (b := 1) (by omega) (by decide)).mp q) (by omega)
  have m2 : nI w ≤ 400 := (nI_leI (b := 400) (by omega) (by decide)).mpr h2
  refine ⟨fun lw => hcD hI hd (lk_shape l D T ea mi sa _ (nI d) (nI j) (nI w) (zI_H (ch_shape l D T (ad 0) ad (ρ 0 0) (ρ 8 0) (ad 22) (cap (N 2)) (N 2) (liF ad (fun i => 200 + 2 * i) (N 2)) (ad (200 + 2 * d)) (ad (201 + 2 * d)) (ρ (200 + 2 * d) 0) (ρ (201 + 2 * d)) d hd e1 e2 (liF_at hd) j hj (nI w) m1 m2)) ⟨rfl, rfl⟩ (fun _ _ _ => rfl) (fun _ => Nat.le_refl _)) ⟨by decide, by decide, by decide, by decide⟩ ⟨by decide, by decide⟩ lw, I_die hd hI (fun k h1 h2 => upD_o h1 h2) ⟨?_, fun k hk => ?_⟩⟩
  · rw [show upD ρ d (ρ (200 + 2 * d) 0) (upd (ρ (201 + 2 * d)) j (nI w)) (200 + 2 * d) = fun _ => ρ (200 + 2 * d) 0 from if_pos rfl]
    exact g1
  · rw [show upD ρ d (ρ (200 + 2 * d) 0) (upd (ρ (201 + 2 * d)) j (nI w)) (201 + 2 * d) = upd (ρ (201 + 2 * d)) j (nI w) from (if_neg (by omega)).trans (if_pos rfl)]
    by_cases q : k = j
    · rw [q, upd_same]
      exact ⟨w, h1, h2, rfl⟩
    · rw [upd_ne _ _ q]
      exact g2 k hk
theorem hc_sink (hI : Inv C J N mst bst ρ a c) (hd : d < N 2) : (∀ lw, HC l D T ea mi sa yL_sink wsL_sink lw J ad N mst bst ρ N (upR ρ (200 + 2 * d) (fun _ => 100)) [.ref (ad 0), .int (nI d)] (ρ (200 + 2 * d) 0)) ∧ Inv C J N mst bst (upR ρ (200 + 2 * d) (fun _ => 100)) a c := by
  obtain ⟨d4, d0, e1, e2⟩ := I_d4 hI hd
  obtain ⟨g1, g2⟩ := I_D hI hd
  refine ⟨fun lw => hcD4 hI hd (lk_sink l D T ea mi sa _ (nI d) (zI_H (ch_sink l D T (ad 0) ad (ρ 0 0) (ρ 8 0) (ad 22) (cap (N 2)) (N 2) (liF ad (fun i => 200 + 2 * i) (N 2)) (ad (200 + 2 * d)) (ad (201 + 2 * d)) (ρ (200 + 2 * d) 0) d hd e1 e2 (liF_at hd))) ⟨rfl, rfl⟩ (fun _ _ _ => rfl) (fun _ => Nat.le_refl _)) ⟨by decide, by decide, by decide, by decide⟩ ⟨by decide, by decide⟩ lw, I_die hd hI (fun k h1 _ => upR_ne _ _ h1) ⟨?_, ?_⟩⟩
  · rw [upR_at]
    exact ⟨100, by decide, by decide, rfl⟩
  · rw [upR_ne _ _ (show 201 + 2 * d ≠ 200 + 2 * d by omega)]
    exact g2
theorem ndP {b : Nat} (hb : b < 4) (hi : i < 12) : [0, 7, 21, 100 + 3 * i, 101 + 3 * i, 102 + 3 * i, 2 + b, 8, 22, 200 + 2 * d, 201 + 2 * d].Nodup := by
  simp only [List.nodup_cons, List.mem_cons, List.not_mem_nil, or_false, List.nodup_nil, and_true, not_false_eq_true]
  omega
theorem liP11 {b : Nat} (hi : i < N 1) (hb : b < 4) (hd : d < N 2) : ∀ j ∈ [0, 7, 21, 100 + 3 * i, 101 + 3 * i, 102 + 3 * i, 2 + b, 8, 22, 200 + 2 * d, 201 + 2 * d], liv N j := by
  intro j hj
  simp only [List.mem_cons, List.not_mem_nil, or_false] at hj
  unfold liv
  omega
theorem hcP {cy : MethodName} {cws : List Cond} {las : List Value} {k : Int32} {rm : Room} {mc ms : Nat} (hI : Inv C J N mst bst ρ a c) (hi : i < N 1) (hd : d < N 2) {β α κ : Nat → Int32} {lf : Int32} (hw : ZIH l cy cws rm (zX ea mi sa) D T (S := Unit) (P11 ad T N bst ρ i d (ρ (100 + 3 * i)) (ρ (101 + 3 * i)) (ρ (102 + 3 * i)) (ρ (200 + 2 * d) 0)) (fun _ => P11 ad T N bst ρ i d β α κ lf) las k mc ms) (hrm : rm.frames ≤ 8 ∧ rm.locals ≤ 300 ∧ rm.cells ≤ 5 ∧ rm.slots ≤ 70) (hm : mc ≤ 5 ∧ ms ≤ 70) (lw : va_W) : HC l D T ea mi sa cy cws lw J ad N mst bst ρ N (upP9 ρ i d β α κ lf) las k := by
  obtain ⟨d4, d0, -, -⟩ := I_d4 hI hd
  obtain ⟨i12, -, -⟩ := I_liB hI hi
  have i0 : 0 < N 1 := Nat.lt_of_le_of_lt (Nat.zero_le i) hi
  have hb := I_b4 hI hi
  have u0 : ∀ k, k < 100 → upP9 ρ i d β α κ lf k = ρ k := fun k hk => (upR_ne _ _ (by omega)).trans (upB_o (by omega) (by omega) (by omega))
  have ub : upP9 ρ i d β α κ lf (100 + 3 * i) = β := (upR_ne _ _ (by omega)).trans upB_b
  have ua : upP9 ρ i d β α κ lf (101 + 3 * i) = α := (upR_ne _ _ (by omega)).trans upB_a
  have uq : upP9 ρ i d β α κ lf (102 + 3 * i) = κ := (upR_ne _ _ (by omega)).trans upB_q
  have ul : upP9 ρ i d β α κ lf (200 + 2 * d) = fun _ => lf := upR_at _ _ _
  have ug : upP9 ρ i d β α κ lf (201 + 2 * d) = ρ (201 + 2 * d) := (upR_ne _ _ (by omega)).trans (upB_o (by omega) (by omega) (by omega))
  refine hc_jr hI.1 (ndP hb i12) (liP11 hi hb hd) (p11_iw i12 i0 hb d4 d0) ((p11_iw i12 i0 hb d4 d0).trans ?_) (fun j hj => ?_) hw hrm hm lw
  · unfold P11 E7
    rw [ub, ua, uq, ul, ug, u0 0 (by omega), u0 7 (by omega), u0 8 (by omega), u0 (2 + bst i) (by omega)]
  · simp only [List.mem_cons, List.not_mem_nil, or_false, not_or] at hj
    exact (upR_ne _ _ hj.2.2.2.2.2.2.2.2.2.1).trans (upB_o hj.2.2.2.1 hj.2.2.2.2.1 hj.2.2.2.2.2.1)
theorem I_upP9 {C' : Nat} (hC : C ≤ C') (hI : Inv C J N mst bst ρ a c) (hi : i < N 1) (hd : d < N 2) {β α κ : Nat → Int32} {lf : Int32} (hB : BIc C' (N 0) (N 3) mst (bst i) β α κ (a i) (c i)) (hl : nbd 0 100 lf) : Inv C' J N mst bst (upP9 ρ i d β α κ lf) a c := by
  have hi12 := (I_liB hI hi).1
  refine I_die hd (I_upB hC hi hI (fun _ _ => rfl) hB) (fun k h1 _ => upR_ne _ _ h1) ⟨?_, ?_⟩
  · rw [show upP9 ρ i d β α κ lf (200 + 2 * d) = fun _ => lf from upR_at _ _ _]
    exact hl
  · rw [show upP9 ρ i d β α κ lf (201 + 2 * d) = ρ (201 + 2 * d) from (upR_ne _ _ (by omega)).trans (upB_o (by omega) (by omega) (by omega))]
    exact (I_D hI hd).2
theorem vS_bnd {α : Nat → Int32} {v B : Nat} (h : vS α v) (hv : v ≤ B) : ∀ x, x < 8 → bnd B (α x) := fun x hx => by
  obtain ⟨y, y1, y2, y3⟩ := vS_at h hx
  exact ⟨y, by omega, y1⟩
theorem dA_bnd {γ : Nat → Int32} {B : Nat} (h : dA γ) (hv : 400 ≤ B) : ∀ x, x < 8 → bnd B (γ x) := fun x hx => by
  obtain ⟨y, y1, y2, y3⟩ := h x hx
  exact ⟨y, by omega, y3⟩
theorem en_1 {en : Nat} (h1 : 1 ≤ en) (h2 : en ≤ 50) : ¬ nI en < 1 ∧ nI en ≤ 50 := ⟨fun q => absurd ((nI_ltI (b := 1) (by omega) (by decide)).mp q) (by omega), (nI_leI (b := 50) (by omega) (by decide)).mpr h2⟩
theorem hc_press_w (hfl : l.stackTraces = false) (hI : Inv C J N mst bst ρ a c) (hi : i < N 1) (hd : d < N 2) {en : Nat} (h1 : 1 ≤ en) (h2 : en ≤ 50) (hv9 : ¬ ρ (100 + 3 * i) 12 = 0 ∨ ¬ 0 < ρ (200 + 2 * d) 0) (lw : va_W) : HC l D T ea mi sa yL_press wsL_press lw J ad N mst bst ρ N ρ [.ref (ad 0), .int (nI i), .int (nI d), .int (nI en)] (-1000003) := by
  obtain ⟨d4, d0, e1, e2⟩ := I_d4 hI hd
  obtain ⟨i12, c1, c2⟩ := I_liB hI hi
  have i0 : 0 < N 1 := Nat.lt_of_le_of_lt (Nat.zero_le i) hi
  have e : iw [0, 7, 21, 100 + 3 * i, 8, 22, 200 + 2 * d] ad (hG ad T ea nof N mst bst ρ) = B4 ad T N bst ρ i ++ [(ad 8, .inr (0, [.int (ρ 8 0), .ref (ad 22), .int (nI (N 2))])), (ad 22, .inl (T 3, cap (N 2), qa (liF ad (fun i => 200 + 2 * i) (N 2)))), (ad (200 + 2 * d), .inr (2, [.ref (ad (201 + 2 * d)), .int (ρ (200 + 2 * d) 0)]))] := by
    rw [iw_cons, iw_cons, iw_cons, iw_cons, iw_cons, iw_cons, iw_cons, iw_nil, hG_b i12, hG_7 i0, hG_d d4, hG_8 d0]
    rfl
  refine hc_jr (js := [0, 7, 21, 100 + 3 * i, 8, 22, 200 + 2 * d]) hI.1 ?_ (fun j hj => ?_) e e (fun _ _ => rfl) (lk_press_3 l D T ea mi sa _ (nI i) (nI d) (nI en) (ch_press_w l hfl D T ea mi sa (ad 0) ad (ρ 0 0) (ρ 7 0) (ad 21) (cap (N 1)) (N 1) (liF ad (fun i => 100 + 3 * i) (N 1)) (ad (100 + 3 * i)) (ad (101 + 3 * i)) (ad (102 + 3 * i)) (ad (2 + bst i)) (ρ (100 + 3 * i)) i hi c1 c2 (liF_at hi) (ρ 8 0) (ad 22) (cap (N 2)) (N 2) (liF ad (fun i => 200 + 2 * i) (N 2)) (ad (200 + 2 * d)) (ad (201 + 2 * d)) (ρ (200 + 2 * d) 0) d hd e1 e2 (liF_at hd) (nI en) (en_1 h1 h2).1 (en_1 h1 h2).2 hv9) ⟨rfl, rfl⟩) ⟨by decide, by decide, by decide, by decide⟩ ⟨by decide, by decide⟩ lw
  · simp only [List.nodup_cons, List.mem_cons, List.not_mem_nil, or_false, List.nodup_nil, and_true, not_false_eq_true]
    omega
  · simp only [List.mem_cons, List.not_mem_nil, or_false] at hj
    unfold liv
    omega
theorem hc_press_d (hfl : l.stackTraces = false) (hI : Inv C J N mst bst ρ a c) (hi : i < N 1) (h2 : N 2 = 0) (lw : va_W) : HC l D T ea mi sa yL_press wsL_press lw J ad N mst bst ρ N ρ [.ref (ad 0), .int (nI i), .int 0, .int 1] (-1000001) := by
  obtain ⟨i12, c1, c2⟩ := I_liB hI hi
  have i0 : 0 < N 1 := Nat.lt_of_le_of_lt (Nat.zero_le i) hi
  have e : iw [0, 7, 21, 100 + 3 * i, 8] ad (hG ad T ea nof N mst bst ρ) = B4 ad T N bst ρ i ++ [(ad 8, .inr (0, [.int (ρ 8 0), .ref (if N 2 = 0 then ea else ad 22), .int (nI (N 2))]))] := by
    rw [iw_cons, iw_cons, iw_cons, iw_cons, iw_cons, iw_nil, hG_b i12, hG_7 i0]
    rfl
  refine hc_jr (js := [0, 7, 21, 100 + 3 * i, 8]) hI.1 ?_ (fun j hj => ?_) e e (fun _ _ => rfl) (lk_press_1 l D T ea mi sa _ (nI i) 0 1 (ch_press_d l hfl D T ea mi sa (ad 0) ad (ρ 0 0) (ρ 7 0) (ad 21) (cap (N 1)) (N 1) (liF ad (fun i => 100 + 3 * i) (N 1)) (ad (100 + 3 * i)) (ad (101 + 3 * i)) (ad (102 + 3 * i)) (ad (2 + bst i)) (ρ (100 + 3 * i)) i hi c1 c2 (liF_at hi) (ρ 8 0) (if N 2 = 0 then ea else ad 22) (N 2) 0 1 (Or.inr (by rw [h2]; decide))) ⟨rfl, rfl⟩) ⟨by decide, by decide, by decide, by decide⟩ ⟨by decide, by decide⟩ lw
  · simp only [List.nodup_cons, List.mem_cons, List.not_mem_nil, or_false, List.nodup_nil, and_true, not_false_eq_true]
    omega
  · simp only [List.mem_cons, List.not_mem_nil, or_false] at hj
    unfold liv
    omega
theorem hc_press_k (hI : Inv C J N mst bst ρ a c) (hi : i < N 1) (hd : d < N 2) {en : Nat} (h1 : 1 ≤ en) (h2 : en ≤ 50) (hc : ρ (100 + 3 * i) 12 = 0) (hlf : 0 < ρ (200 + 2 * d) 0) (h8 : ρ (100 + 3 * i) 8 < 700) : ∃ ρ' : Nat → Nat → Int32, (∀ lw, HC l D T ea mi sa yL_press wsL_press lw J ad N mst bst ρ N ρ' [.ref (ad 0), .int (nI i), .int (nI d), .int (nI en)] (-1)) ∧ ρ' (100 + 3 * i) 12 = 1 ∧ ρ' (101 + 3 * i) = ρ (101 + 3 * i) ∧ Inv C J N mst bst ρ' a c := by
  obtain ⟨d4, d0, e1, e2⟩ := I_d4 hI hd
  obtain ⟨i12, c1, c2⟩ := I_liB hI hi
  obtain ⟨hmo, ⟨A, A1, A2, A3, v, x, y, z, v1, v2, v3, v4, v5⟩, b7, b8, ⟨b9, w9⟩, b10, b11, b12, hp, hld, b17⟩ := I_B hI hi
  obtain ⟨hD1, hD2⟩ := I_D hI hd
  obtain ⟨cn, cn1, cn2, cn3⟩ := b8
  have hec : en * cn < 2 ^ 31 := Nat.lt_of_le_of_lt (Nat.mul_le_mul h2 cn2) (by decide)
  have hfa := vS_bnd v1 (B := 1000) (by omega)
  have hga := dA_bnd hD2 (B := 1000) (by decide)
  have hcn : cn < 700 := (nI_ltI (b := 700) (by omega) (by decide)).mp (by rw [← cn3]; exact h8)
  refine ⟨_, fun lw => hcP hI hi hd (lk_press l D T ea mi sa _ (nI i) (nI d) (nI en) (zI_H (ch_press_crack l D T (ad 0) ad (ρ 0 0) (ρ 7 0) (ad 21) (cap (N 1)) (N 1) (liF ad (fun i => 100 + 3 * i) (N 1)) (ad (100 + 3 * i)) (ad (101 + 3 * i)) (ad (102 + 3 * i)) (ad (2 + bst i)) (ρ (100 + 3 * i)) (ρ (101 + 3 * i)) (ρ (102 + 3 * i)) (ρ (2 + bst i)) i hi c1 c2 (liF_at hi) (ρ 8 0) (ad 22) (cap (N 2)) (N 2) (liF ad (fun i => 200 + 2 * i) (N 2)) (ad (200 + 2 * d)) (ad (201 + 2 * d)) (ρ (200 + 2 * d) 0) (ρ (201 + 2 * d)) d hd e1 e2 (liF_at hd) en cn h1 h2 cn3 cn2 hec hc hlf 1000 (by decide) hfa hga hcn)) ⟨rfl, rfl⟩ (fun _ _ _ => rfl) (fun _ => Nat.le_refl _)) ⟨by decide, by decide, by decide, by decide⟩ ⟨by decide, by decide⟩ lw, ?_, ?_, I_upP9 (Nat.le_refl C) hI hi hd ⟨hmo, ⟨A, A1, A2, A3, v, x, y, z, v1, v2, v3, v4, v5⟩, b7, ⟨cn, cn1, cn2, cn3⟩, ⟨b9, w9⟩, b10, b11, Or.inr rfl, hp, hld, b17⟩ hD1⟩
  · rw [show ∀ β α κ lf, upP9 ρ i d β α κ lf (100 + 3 * i) = β from fun β α κ lf => (upR_ne _ _ (by omega)).trans upB_b]
    rfl
  · exact (upR_ne _ _ (by omega)).trans upB_a
theorem hc_press_o (hI : Inv C J N mst bst ρ a c) (hi : i < N 1) (hd : d < N 2) {en : Nat} (h1 : 1 ≤ en) (h2 : en ≤ 50) (hc : ρ (100 + 3 * i) 12 = 0) (hlf : 0 < ρ (200 + 2 * d) 0) (h8 : ¬ ρ (100 + 3 * i) 8 < 700) : ∃ (ρ' : Nat → Nat → Int32) (t L v v' : Nat), (∀ lw, HC l D T ea mi sa yL_press wsL_press lw J ad N mst bst ρ N ρ' [.ref (ad 0), .int (nI i), .int (nI d), .int (nI en)] (nI t)) ∧ t ≤ 8 ∧ ρ' (200 + 2 * d) 0 = nI L ∧ L < 100 ∧ VO (ρ (101 + 3 * i)) 0 = nI v ∧ VO (ρ' (101 + 3 * i)) 0 = nI v' ∧ v ≤ 1000 ∧ v' ≤ v ∧ (t ≠ 0 → v' = v) ∧ Inv C J N mst bst ρ' a c := by
  obtain ⟨d4, d0, e1, e2⟩ := I_d4 hI hd
  obtain ⟨i12, c1, c2⟩ := I_liB hI hi
  obtain ⟨hmo, ⟨A, A1, A2, A3, v, x, y, z, v1, v2, v3, v4, v5⟩, b7, b8, ⟨b9, w9⟩, b10, b11, b12, hp, hld, b17⟩ := I_B hI hi
  obtain ⟨hD1, hD2⟩ := I_D hI hd
  obtain ⟨cn, cn1, cn2, cn3⟩ := b8
  have hec : en * cn < 2 ^ 31 := Nat.lt_of_le_of_lt (Nat.mul_le_mul h2 cn2) (by decide)
  have hfa := vS_bnd v1 (B := 1000) (by omega)
  have hga := dA_bnd hD2 (B := 1000) (by decide)
  have hcn : 700 ≤ cn := Nat.not_lt.mp (fun q => h8 (by rw [cn3]; exact (nI_ltI (b := 700) (by omega) (by decide)).mpr q))
  obtain ⟨n, -, n1, n2⟩ := hD1
  have n0 : 0 < n := (nI_ltI (a := 0) (by decide) (by omega)).mp (by rw [← n2]; exact hlf)
  have f1 := vS_FM hD2 (en * cn / 1000) v1 (by omega)
  obtain ⟨t, t1, t2, t3⟩ := CL_n (ρ (201 + 2 * d)) (FM (ρ (201 + 2 * d)) (en * cn / 1000) (ρ (101 + 3 * i)))
  have hua : ∀ β α κ lf, upP9 ρ i d β α κ lf (101 + 3 * i) = α := fun β α κ lf => (upR_ne _ _ (by omega)).trans upB_a
  have hul : ∀ β α κ lf, upP9 ρ i d β α κ lf (200 + 2 * d) = fun _ => lf := fun β α κ lf => upR_at _ _ _
  by_cases hz : CL (ρ (201 + 2 * d)) (FM (ρ (201 + 2 * d)) (en * cn / 1000) (ρ (101 + 3 * i))) = 0
  · have t0 : t = 0 := (nI_eq (by omega) (by decide)).mp (t2.symm.trans hz)
    obtain ⟨w, w1, w2, w3⟩ := vS_flash hD2 f1 (by omega) (t3 t0) y
    rw [← v3] at w3
    by_cases hc9 : cn < 900
    · have wl : (if 0 < ρ (200 + 2 * d) 0 - 3 then ρ (200 + 2 * d) 0 - 3 else 0) = nI (n - 3) := by rw [n2]; exact (lif3 n (by omega)).2
      have ch := ch_press_ok3z l D T (ad 0) ad (ρ 0 0) (ρ 7 0) (ad 21) (cap (N 1)) (N 1) (liF ad (fun i => 100 + 3 * i) (N 1)) (ad (100 + 3 * i)) (ad (101 + 3 * i)) (ad (102 + 3 * i)) (ad (2 + bst i)) (ρ (100 + 3 * i)) (ρ (101 + 3 * i)) (ρ (102 + 3 * i)) (ρ (2 + bst i)) i hi c1 c2 (liF_at hi) (ρ 8 0) (ad 22) (cap (N 2)) (N 2) (liF ad (fun i => 200 + 2 * i) (N 2)) (ad (200 + 2 * d)) (ad (201 + 2 * d)) (ρ (200 + 2 * d) 0) (ρ (201 + 2 * d)) d hd e1 e2 (liF_at hd) en cn h1 h2 cn3 cn2 hec hc hlf 1000 (by decide) hfa hga hcn hc9 hz
      rw [wl, hz] at ch
      refine ⟨_, 0, n - 3, v, v - w, fun lw => hcP hI hi hd (lk_press l D T ea mi sa _ (nI i) (nI d) (nI en) (zI_H ch) ⟨rfl, rfl⟩ (fun _ _ _ => rfl) (fun _ => Nat.le_refl _)) ⟨by decide, by decide, by decide, by decide⟩ ⟨by decide, by decide⟩ lw, by decide, ?_, by omega, vS_VO v1, ?_, by omega, Nat.sub_le _ _, fun q => absurd rfl q, I_upP9 (Nat.le_refl C) hI hi hd ⟨hmo, ⟨A, A1, A2, A3, v - w, x, y + w, z, w2, v2, w3, v4, by omega⟩, nbd_clS b7, nbd_wrm (nbd_clS b7) ⟨cn, cn1, cn2, cn3⟩, ⟨b9, w9⟩, b10, b11, b12, hp, hld, b17⟩ ⟨n - 3, Nat.zero_le _, by omega, rfl⟩⟩
      · rw [hul]
      · rw [hua]
        exact vS_VO w2
    · have wl : (if 0 < ρ (200 + 2 * d) 0 - 1 then ρ (200 + 2 * d) 0 - 1 else 0) = nI (n - 1) := by rw [n2]; exact (lif1 n (by omega)).2
      have ch := ch_press_ok1z l D T (ad 0) ad (ρ 0 0) (ρ 7 0) (ad 21) (cap (N 1)) (N 1) (liF ad (fun i => 100 + 3 * i) (N 1)) (ad (100 + 3 * i)) (ad (101 + 3 * i)) (ad (102 + 3 * i)) (ad (2 + bst i)) (ρ (100 + 3 * i)) (ρ (101 + 3 * i)) (ρ (102 + 3 * i)) (ρ (2 + bst i)) i hi c1 c2 (liF_at hi) (ρ 8 0) (ad 22) (cap (N 2)) (N 2) (liF ad (fun i => 200 + 2 * i) (N 2)) (ad (200 + 2 * d)) (ad (201 + 2 * d)) (ρ (200 + 2 * d) 0) (ρ (201 + 2 * d)) d hd e1 e2 (liF_at hd) en cn h1 h2 cn3 cn2 hec hc hlf 1000 (by decide) hfa hga hcn (Nat.not_lt.mp hc9) hz
      rw [wl, hz] at ch
      refine ⟨_, 0, n - 1, v, v - w, fun lw => hcP hI hi hd (lk_press l D T ea mi sa _ (nI i) (nI d) (nI en) (zI_H ch) ⟨rfl, rfl⟩ (fun _ _ _ => rfl) (fun _ => Nat.le_refl _)) ⟨by decide, by decide, by decide, by decide⟩ ⟨by decide, by decide⟩ lw, by decide, ?_, by omega, vS_VO v1, ?_, by omega, Nat.sub_le _ _, fun q => absurd rfl q, I_upP9 (Nat.le_refl C) hI hi hd ⟨hmo, ⟨A, A1, A2, A3, v - w, x, y + w, z, w2, v2, w3, v4, by omega⟩, nbd_clS b7, nbd_wrm (nbd_clS b7) ⟨cn, cn1, cn2, cn3⟩, ⟨b9, w9⟩, b10, b11, b12, hp, hld, b17⟩ ⟨n - 1, Nat.zero_le _, by omega, rfl⟩⟩
      · rw [hul]
      · rw [hua]
        exact vS_VO w2
  · have t0 : t ≠ 0 := fun q => hz (by rw [t2, q]; rfl)
    by_cases hc9 : cn < 900
    · have wl : (if 0 < ρ (200 + 2 * d) 0 - 3 then ρ (200 + 2 * d) 0 - 3 else 0) = nI (n - 3) := by rw [n2]; exact (lif3 n (by omega)).2
      have ch := ch_press_ok3n l D T (ad 0) ad (ρ 0 0) (ρ 7 0) (ad 21) (cap (N 1)) (N 1) (liF ad (fun i => 100 + 3 * i) (N 1)) (ad (100 + 3 * i)) (ad (101 + 3 * i)) (ad (102 + 3 * i)) (ad (2 + bst i)) (ρ (100 + 3 * i)) (ρ (101 + 3 * i)) (ρ (102 + 3 * i)) (ρ (2 + bst i)) i hi c1 c2 (liF_at hi) (ρ 8 0) (ad 22) (cap (N 2)) (N 2) (liF ad (fun i => 200 + 2 * i) (N 2)) (ad (200 + 2 * d)) (ad (201 + 2 * d)) (ρ (200 + 2 * d) 0) (ρ (201 + 2 * d)) d hd e1 e2 (liF_at hd) en cn h1 h2 cn3 cn2 hec hc hlf 1000 (by decide) hfa hga hcn hc9 hz
      rw [wl, t2] at ch
      refine ⟨_, t, n - 3, v, v, fun lw => hcP hI hi hd (lk_press l D T ea mi sa _ (nI i) (nI d) (nI en) (zI_H ch) ⟨rfl, rfl⟩ (fun _ _ _ => rfl) (fun _ => Nat.le_refl _)) ⟨by decide, by decide, by decide, by decide⟩ ⟨by decide, by decide⟩ lw, t1, ?_, by omega, vS_VO v1, ?_, by omega, Nat.le_refl _, fun _ => rfl, I_upP9 (Nat.le_refl C) hI hi hd ⟨hmo, ⟨A, A1, A2, A3, v, x, y, z, f1, v2, v3, v4, v5⟩, nbd_clS b7, nbd_wrm (nbd_clS b7) ⟨cn, cn1, cn2, cn3⟩, ⟨b9, w9⟩, b10, b11, b12, hp, hld, b17⟩ ⟨n - 3, Nat.zero_le _, by omega, rfl⟩⟩
      · rw [hul]
      · rw [hua]
        exact vS_VO f1
    · have wl : (if 0 < ρ (200 + 2 * d) 0 - 1 then ρ (200 + 2 * d) 0 - 1 else 0) = nI (n - 1) := by rw [n2]; exact (lif1 n (by omega)).2
      have ch := ch_press_ok1n l D T (ad 0) ad (ρ 0 0) (ρ 7 0) (ad 21) (cap (N 1)) (N 1) (liF ad (fun i => 100 + 3 * i) (N 1)) (ad (100 + 3 * i)) (ad (101 + 3 * i)) (ad (102 + 3 * i)) (ad (2 + bst i)) (ρ (100 + 3 * i)) (ρ (101 + 3 * i)) (ρ (102 + 3 * i)) (ρ (2 + bst i)) i hi c1 c2 (liF_at hi) (ρ 8 0) (ad 22) (cap (N 2)) (N 2) (liF ad (fun i => 200 + 2 * i) (N 2)) (ad (200 + 2 * d)) (ad (201 + 2 * d)) (ρ (200 + 2 * d) 0) (ρ (201 + 2 * d)) d hd e1 e2 (liF_at hd) en cn h1 h2 cn3 cn2 hec hc hlf 1000 (by decide) hfa hga hcn (Nat.not_lt.mp hc9) hz
      rw [wl, t2] at ch
      refine ⟨_, t, n - 1, v, v, fun lw => hcP hI hi hd (lk_press l D T ea mi sa _ (nI i) (nI d) (nI en) (zI_H ch) ⟨rfl, rfl⟩ (fun _ _ _ => rfl) (fun _ => Nat.le_refl _)) ⟨by decide, by decide, by decide, by decide⟩ ⟨by decide, by decide⟩ lw, t1, ?_, by omega, vS_VO v1, ?_, by omega, Nat.le_refl _, fun _ => rfl, I_upP9 (Nat.le_refl C) hI hi hd ⟨hmo, ⟨A, A1, A2, A3, v, x, y, z, f1, v2, v3, v4, v5⟩, nbd_clS b7, nbd_wrm (nbd_clS b7) ⟨cn, cn1, cn2, cn3⟩, ⟨b9, w9⟩, b10, b11, b12, hp, hld, b17⟩ ⟨n - 1, Nat.zero_le _, by omega, rfl⟩⟩
      · rw [hul]
      · rw [hua]
        exact vS_VO f1
theorem stf_at (ad : Nat → Nat) {j : Nat} (h : j < 4) : stf ad j = some (ad (2 + j)) := by
  have e : j = 0 ∨ j = 1 ∨ j = 2 ∨ j = 3 := by omega
  rcases e with rfl | rfl | rfl | rfl <;> rfl
def stR (y z w : Int32) : Nat → Int32 := fun k => if k = 0 then y else if k = 1 then z else w
theorem hc_steel (hI : Inv C J N mst bst ρ a c) {j x y z : Nat} (hj : j < 4) (x1 : 1 ≤ x) (x2 : x ≤ 9) (y1 : 20 ≤ y) (y2 : y ≤ 70) (z2 : z ≤ 9) : (∀ lw, HC l D T ea mi sa yL_steel wsL_steel lw J ad N mst bst ρ N (upR ρ (2 + j) (stR (nI x) (nI y) (nI z))) [.ref (ad 0), .int (nI j), .int (nI x), .int (nI y), .int (nI z)] 0) ∧ Inv C J N mst bst (upR ρ (2 + j) (stR (nI x) (nI y) (nI z))) a c := by
  refine ⟨fun lw => ?_, I_steel hj hI (fun k hk => upR_ne _ _ hk) ?_⟩
  · have eA : iw [0, 1, 2 + j] ad (hG ad T ea nof N mst bst ρ) = [(ad 0, .inr (6, hsF ad (ρ 0 0))), (ad 1, .inl (T 4, 4, qa (stf ad))), (ad (2 + j), .inr (5, [.int (ρ (2 + j) 0), .int (ρ (2 + j) 1), .int (ρ (2 + j) 2)]))] := by
      rw [iw_cons, iw_cons, iw_cons, iw_nil, hG_s hj]
      rfl
    have eB : iw [0, 1, 2 + j] ad (hG ad T ea nof N mst bst (upR ρ (2 + j) (stR (nI x) (nI y) (nI z)))) = [(ad 0, .inr (6, hsF ad (ρ 0 0))), (ad 1, .inl (T 4, 4, qa (stf ad))), (ad (2 + j), .inr (5, [.int (nI x), .int (nI y), .int (nI z)]))] := by
      rw [iw_cons, iw_cons, iw_cons, iw_nil, hG_s hj, upR_at]
      show [(ad 0, (Sum.inr (6, hsF ad (upR ρ (2 + j) (stR (nI x) (nI y) (nI z)) 0 0)) : va_E)), _, _] = _
      rw [upR_ne _ _ (show 0 ≠ 2 + j by omega)]
      rfl
    refine hc_jr (js := [0, 1, 2 + j]) hI.1 ?_ (fun k hk => ?_) eA eB (fun k hk => ?_) (lk_steel l D T ea mi sa _ (nI j) (nI x) (nI y) (nI z) (zV_H (ch_steel l D T (ad 0) ad (ρ 0 0) (stf ad) (ad (2 + j)) j (ρ (2 + j)) hj (stf_at ad hj) (nI x) (nI y) (nI z) (fun q => absurd ((nI_ltI (b := 1) (by omega) (by decide)).mp q) (by omega)) ((nI_leI (b := 9) (by omega) (by decide)).mpr x2) (fun q => absurd ((nI_ltI (b := 20) (by omega) (by decide)).mp q) (by omega)) ((nI_leI (b := 70) (by omega) (by decide)).mpr y2) (fun q => nI_pos (show z < 2 ^ 31 by omega) q) ((nI_leI (b := 9) (by omega) (by decide)).mpr z2))) ⟨rfl, rfl⟩ (fun _ _ _ => rfl) (fun _ => Nat.le_refl _)) ⟨by decide, by decide, by decide, by decide⟩ ⟨by decide, by decide⟩ lw
    · simp only [List.nodup_cons, List.mem_cons, List.not_mem_nil, or_false, List.nodup_nil, and_true, not_false_eq_true]
      omega
    · simp only [List.mem_cons, List.not_mem_nil, or_false] at hk
      unfold liv
      omega
    · simp only [List.mem_cons, List.not_mem_nil, or_false, not_or] at hk
      exact upR_ne _ _ hk.2.2
  · rw [upR_at]
    exact ⟨⟨x, x1, x2, rfl⟩, ⟨y, y1, y2, rfl⟩, ⟨z, Nat.zero_le _, z2, rfl⟩⟩
/-- the jobs as they will be done -/
def PLn (P : Nat → Nat) (n : Nat) (r w : Nat → Int32) : Prop := (∀ q, q < n → plA w n (r 1) q = nI (P q) ∧ 200 ≤ P q ∧ P q ≤ 1300) ∧ ((∀ x y, x ≤ y → y < n → P x ≤ P y) ∨ ∀ x y, x ≤ y → y < n → P y ≤ P x)
theorem PL_ex {n : Nat} {r w : Nat → Int32} (h : QJc n r w) : ∃ P, PLn P n r w := by
  obtain ⟨h1, h2, h3, h4, h5⟩ := h
  have e : ∀ k, k < n → w k = nI (w k).toNatClampNeg ∧ 200 ≤ (w k).toNatClampNeg ∧ (w k).toNatClampNeg ≤ 1300 := fun k hk => by
    obtain ⟨m, m1, m2, m3⟩ := h4 k hk
    have e9 : (w k).toNatClampNeg = m := by rw [m3, nI_clamp (by omega)]
    rw [e9]
    exact ⟨m3, m1, m2⟩
  have hs : ∀ x y, x ≤ y → y < n → (w x).toNatClampNeg ≤ (w y).toNatClampNeg := fun x y hx hy => by
    obtain ⟨a1, a2, a3⟩ := e x (by omega)
    obtain ⟨b1, b2, b3⟩ := e y hy
    have := h5 x y hx hy
    rw [a1, b1] at this
    exact (nI_leI (by omega) (by omega)).mp this
  by_cases hf : plF w n (r 1) = 0
  · refine ⟨fun q => (w q).toNatClampNeg, fun q hq => ?_, Or.inl hs⟩
    unfold plA
    rw [if_pos hf]
    exact e q hq
  · refine ⟨fun q => (w (n - 1 - q)).toNatClampNeg, fun q hq => ?_, Or.inr (fun x y hx hy => hs _ _ (by omega) (by omega))⟩
    unfold plA
    rw [if_neg hf]
    exact e _ (by omega)
theorem I_Q (hI : Inv C J N mst bst ρ a c) : QJc (N 4) (ρ 14) (ρ 15) := hI.2.2.2.2.2.1
theorem hc_job (hI : Inv C J N mst bst ρ a c) {w : Nat} (h1 : 200 ≤ w) (h2 : w ≤ 1300) (hj : N 4 < 12) : (∀ lw, HC l D T ea mi sa yL_job wsL_job lw J ad N mst bst ρ (N4 N (N 4 + 1)) (upR (upR ρ 14 (upd (ρ 14) 0 (nI (N 4 + 1)))) 15 (ins (ρ 15) (nI w) (N 4))) [.ref (ad 0), .int (nI w)] (nI (N 4 + 1))) ∧ Inv C J (N4 N (N 4 + 1)) mst bst (upR (upR ρ 14 (upd (ρ 14) 0 (nI (N 4 + 1)))) 15 (ins (ρ 15) (nI w) (N 4))) a c := by
  obtain ⟨q1, q2, q3, q4, q5⟩ := I_Q hI
  have m1 : ¬ nI w < 200 := fun q => absurd ((nI_ltI (b := 200) (by omega) (by decide)).mp q) (by omega)
  have m2 : nI w ≤ 1300 := (nI_leI (b := 1300) (by omega) (by decide)).mpr h2
  have e14 : (upR (upR ρ 14 (upd (ρ 14) 0 (nI (N 4 + 1)))) 15 (ins (ρ 15) (nI w) (N 4))) 14 = upd (ρ 14) 0 (nI (N 4 + 1)) := (upR_ne _ _ (by decide)).trans (upR_at _ _ _)
  have e15 : (upR (upR ρ 14 (upd (ρ 14) 0 (nI (N 4 + 1)))) 15 (ins (ρ 15) (nI w) (N 4))) 15 = ins (ρ 15) (nI w) (N 4) := upR_at _ _ _
  refine ⟨fun lw => ?_, I_plan hI (fun k k1 k2 => (upR_ne _ _ k2).trans (upR_ne _ _ k1)) ?_⟩
  · refine hc_js (js := [0, 14, 15]) hI.1 (by decide) liP (p3_iw (f := nof)) (W1 := [(ad 0, .inr (6, hsF ad (ρ 0 0))), (ad 14, .inr (4, [.ref (ad 15), .int (nI (N 4 + 1)), .int (ρ 14 1)])), (ad 15, .inl (T 0, 12, .inl (ins (ρ 15) (nI w) (N 4))))]) rfl (fun k hk hn => ?_) (lk_job l D T ea mi sa (ad 0) (nI w) (zI_H (ch_job l D T (ad 0) ad (ρ 0 0) (ρ 15) (ρ 14 0) (ρ 14 1) (nI w) m1 m2 (N 4) hj q2)) ⟨rfl, rfl⟩ (fun _ _ _ => rfl) (fun _ => Nat.le_refl _)) ⟨by decide, by decide, by decide, by decide⟩ ⟨by decide, by decide⟩ lw
    simp only [List.mem_cons, List.not_mem_nil, or_false, not_or] at hn
    rw [hG_N4]
    exact hG_row ((upR_ne _ _ hn.2.2).trans (upR_ne _ _ hn.2.1)) (fun e => liv_16 ((hI.1.2.1 16).mp (by rw [← e]; exact hk)))
  · rw [e14, e15]
    refine ⟨by omega, rfl, q3, fun k hk => ins_all (P := nbd 200 1300) ⟨w, h1, h2, rfl⟩ (N 4) (ρ 15) q4 k (by omega), fun x y hx hy => ins_sort (N 4) (ρ 15) q5 x y hx (by omega)⟩
theorem hc_job_w (hfl : l.stackTraces = false) (hI : Inv C J N mst bst ρ a c) {w : Nat} (h1 : 200 ≤ w) (h2 : w ≤ 1300) (hj : N 4 = 12) (lw : va_W) : HC l D T ea mi sa yL_job wsL_job lw J ad N mst bst ρ N ρ [.ref (ad 0), .int (nI w)] (-1000003) := by
  obtain ⟨q1, q2, q3, q4, q5⟩ := I_Q hI
  have m1 : ¬ nI w < 200 := fun q => absurd ((nI_ltI (b := 200) (by omega) (by decide)).mp q) (by omega)
  have m2 : nI w ≤ 1300 := (nI_leI (b := 1300) (by omega) (by decide)).mpr h2
  exact hc_jr (js := [0, 14, 15]) hI.1 (by decide) liP (p3_iw (f := nof)) (p3_iw (f := nof)) (fun _ _ => rfl) (lk_job_2 l D T ea mi sa _ (nI w) (ch_job_w l hfl D T ea mi sa _ ad _ (ρ 15) (ρ 14 0) (ρ 14 1) (nI w) m1 m2 (N 4) ⟨by omega, by omega⟩ q2) ⟨rfl, rfl⟩) ⟨by decide, by decide, by decide, by decide⟩ ⟨by decide, by decide⟩ lw
theorem hc_planned (hI : Inv C J N mst bst ρ a c) {P : Nat → Nat} (hP : PLn P (N 4) (ρ 14) (ρ 15)) {q : Nat} (hq : q < N 4) (lw : va_W) : HC l D T ea mi sa yL_planned wsL_planned lw J ad N mst bst ρ N ρ [.ref (ad 0), .int (nI q)] (nI (P q)) := by
  obtain ⟨q1, q2, q3, q4, q5⟩ := I_Q hI
  have ch := ch_planned l D T (ad 0) ad (ρ 0 0) (ρ 15) (ρ 14 0) (ρ 14 1) (N 4) q1 q2 q (by omega) hq
  rw [(hP.1 q hq).1] at ch
  exact hc_jr (js := [0, 14, 15]) hI.1 (by decide) liP (p3_iw (f := nof)) (p3_iw (f := nof)) (fun _ _ => rfl) (lk_planned l D T ea mi sa (ad 0) (nI q) (zI_H ch) ⟨rfl, rfl⟩ (fun _ _ _ => rfl) (fun _ => Nat.le_refl _)) ⟨by decide, by decide, by decide, by decide⟩ ⟨by decide, by decide⟩ lw
theorem hc_planned_n (hI : Inv C J N mst bst ρ a c) {q : Nat} (hq : N 4 ≤ q) (hq2 : q ≤ 12) (lw : va_W) : HC l D T ea mi sa yL_planned wsL_planned lw J ad N mst bst ρ N ρ [.ref (ad 0), .int (nI q)] (-1) := by
  obtain ⟨q1, q2, q3, q4, q5⟩ := I_Q hI
  exact hc_jr (js := [0, 14, 15]) hI.1 (by decide) liP (p3_iw (f := nof)) (p3_iw (f := nof)) (fun _ _ => rfl) (lk_planned l D T ea mi sa (ad 0) (nI q) (zI_H (ch_planned_n l D T (ad 0) ad (ρ 0 0) (ρ 15) (ρ 14 0) (ρ 14 1) (N 4) q1 q2 q hq (by omega))) ⟨rfl, rfl⟩ (fun _ _ _ => rfl) (fun _ => Nat.le_refl _)) ⟨by decide, by decide, by decide, by decide⟩ ⟨by decide, by decide⟩ lw
theorem absd_n {x y : Nat} (hx : x ≤ 1300) (hy : y ≤ 1300) : absd (nI x - nI y) = nI ((x - y) + (y - x)) := by
  unfold absd
  by_cases h : y ≤ x
  · rw [pk_sub h, if_pos (show (0 : Int32) ≤ nI (x - y) from (nI_leI (a := 0) (by decide) (by omega)).mpr (Nat.zero_le _)), show y - x = 0 by omega, Nat.add_zero]
  · rw [i_negsub, pk_sub (show x ≤ y by omega), if_neg (neg_tab (y - x) (by omega) (by omega)), show x - y = 0 by omega, Nat.zero_add]
    rw [Int32.zero_sub, Int32.zero_sub, Int32.neg_neg]
theorem hc_run (hI : Inv C J N mst bst ρ a c) {P : Nat → Nat} (hP : PLn P (N 4) (ρ 14) (ρ 15)) (h0 : 0 < N 4) : ∃ F : Nat, (200 ≤ F ∧ F ≤ 1300) ∧ (∀ lw, HC l D T ea mi sa yX5_run wsX5_run lw J ad N mst bst ρ (N4 N 0) (upR ρ 14 (upd (upd (ρ 14) 0 0) 1 (nI (P (N 4 - 1))))) [.ref (ad 0)] (nI ((P 0 - F) + (F - P 0) + ((P (N 4 - 1) - P 0) + (P 0 - P (N 4 - 1)))))) ∧ Inv C J (N4 N 0) mst bst (upR ρ 14 (upd (upd (ρ 14) 0 0) 1 (nI (P (N 4 - 1))))) a c := by
  obtain ⟨q1, q2, ⟨F, F1, F2, F3⟩, q4, q5⟩ := I_Q hI
  have ch := ch_run l D T (ad 0) ad (ρ 0 0) (ρ 15) (ρ 14 0) (ρ 14 1) (N 4) q1 q2 h0
  obtain ⟨a1, a2, a3⟩ := hP.1 0 h0
  obtain ⟨b1, b2, b3⟩ := hP.1 (N 4 - 1) (by omega)
  rw [a1, b1, F3, absd_n a3 F2, absd_n b3 a3, nI_add] at ch
  refine ⟨F, ⟨F1, F2⟩, fun lw => ?_, I_plan hI (fun k k1 k2 => upR_ne _ _ k1) ?_⟩
  · refine hc_js (js := [0, 14, 15]) hI.1 (by decide) liP (W0 := [(ad 0, .inr (6, hsF ad (ρ 0 0))), (ad 14, .inr (4, [.ref (ad 15), .int (ρ 14 0), .int (nI F)])), (ad 15, .inl (T 0, 12, .inl (ρ 15)))]) (by rw [← F3]; rfl) (W1 := [(ad 0, .inr (6, hsF ad (ρ 0 0))), (ad 14, .inr (4, [.ref (ad 15), .int 0, .int (nI (P (N 4 - 1)))])), (ad 15, .inl (T 0, 12, .inl (ρ 15)))]) rfl (fun k hk hn => ?_) (zI_H ch) ⟨by decide, by decide, by decide, by decide⟩ ⟨by decide, by decide⟩ lw
    simp only [List.mem_cons, List.not_mem_nil, or_false, not_or] at hn
    rw [hG_N4]
    exact hG_row (upR_ne _ _ hn.2.1) (fun e => liv_16 ((hI.1.2.1 16).mp (by rw [← e]; exact hk)))
  · rw [upR_at, upR_ne _ _ (show 15 ≠ 14 by decide)]
    exact ⟨Nat.zero_le _, rfl, ⟨P (N 4 - 1), b2, b3, rfl⟩, fun k hk => absurd hk (Nat.not_lt_zero _), fun x y _ hy => absurd hy (Nat.not_lt_zero _)⟩
theorem hc_run0 (hI : Inv C J N mst bst ρ a c) (h0 : N 4 = 0) (lw : va_W) : HC l D T ea mi sa yX5_run wsX5_run lw J ad N mst bst ρ N ρ [.ref (ad 0)] 0 := by
  obtain ⟨q1, q2, q3, q4, q5⟩ := I_Q hI
  exact hc_jr (js := [0, 14, 15]) hI.1 (by decide) liP (p3_iw (f := nof)) (p3_iw (f := nof)) (fun _ _ => rfl) (zI_H (ch_run_0 l D T (ad 0) ad (ρ 0 0) (ρ 15) (ρ 14 0) (ρ 14 1) (by rw [q2, h0]))) ⟨by decide, by decide, by decide, by decide⟩ ⟨by decide, by decide⟩ lw
end HC3
