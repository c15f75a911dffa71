/-! ===== the helpers over the whole world: a billet is changed ===== -/
section HC2
variable {l : Launch} {D : va_G} {T : Nat → ClassId} {ea mi : Nat} {sa : Nat → Nat}
variable {C : Nat} {ad : Nat → Nat} {J : List Nat} {N mst bst : Nat → Nat} {ρ : Nat → Nat → Int32} {a c : Nat → Int32} {i : Nat}
theorem nd5b {b : Nat} (hb : b < 4) : [0, 7, 21, 100 + 3 * i, 2 + b].Nodup := by
  simp only [List.nodup_cons, List.mem_cons, List.not_mem_nil, or_false, List.nodup_nil, and_true, not_false_eq_true]
  omega
theorem li5b {b : Nat} (hi : i < N 1) (hb : b < 4) : ∀ j ∈ [0, 7, 21, 100 + 3 * i, 2 + b], liv N j := by
  intro j hj
  simp only [List.mem_cons, List.not_mem_nil, or_false] at hj
  unfold liv
  omega
theorem hc5 {cy : MethodName} {cws : List Cond} {las : List Value} {k : Int32} {rm : Room} {mc ms : Nat} (hI : Inv C J N mst bst ρ a c) (hi : i < N 1) (hw : ZIH l cy cws rm (zX ea mi sa) D T (S := Unit) (B4 ad T N bst ρ i ++ [(ad (2 + bst i), .inr (5, [.int (ρ (2 + bst i) 0), .int (ρ (2 + bst i) 1), .int (ρ (2 + bst i) 2)]))]) (fun _ => B4 ad T N bst ρ i ++ [(ad (2 + bst i), .inr (5, [.int (ρ (2 + bst i) 0), .int (ρ (2 + bst i) 1), .int (ρ (2 + bst i) 2)]))]) las k mc ms) (hrm : rm.frames ≤ 8 ∧ rm.locals ≤ 300 ∧ rm.cells ≤ 5 ∧ rm.slots ≤ 70) (hm : mc ≤ 5 ∧ ms ≤ 70) (lw : va_W) : HC l D T ea mi sa cy cws lw J ad N mst bst ρ N ρ las k :=
  hc_jr hI.1 (nd5b (I_b4 hI hi)) (li5b hi (I_b4 hI hi)) (b5_iw (I_liB hI hi).1 (Nat.lt_of_le_of_lt (Nat.zero_le i) hi) (I_b4 hI hi)) (b5_iw (I_liB hI hi).1 (Nat.lt_of_le_of_lt (Nat.zero_le i) hi) (I_b4 hI hi)) (fun _ _ => rfl) hw hrm hm lw
theorem hGr_n {f sk co gr : Int32} (h : nbd 5 200 gr) : ∀ n, nbd 5 200 (hGr f sk co gr n)
  | 0 => h
  | n + 1 => by
    obtain ⟨g, g1, g2, g3⟩ := hGr_n (f := f) (sk := sk) (co := co) h n
    rw [hGr, g3]
    split
    · split
      · exact ⟨g, g1, g2, rfl⟩
      · split
        · next q =>
          have := (nI_ltI (b := 200) (by omega) (by decide)).mp q
          exact ⟨g + 1, by omega, by omega, nI_1 g⟩
        · exact ⟨g, g1, g2, rfl⟩
    · exact ⟨g, g1, g2, rfl⟩
theorem bndn {a B : Nat} {v : Int32} (h : nbd a B v) : bnd B v := by
  obtain ⟨n, -, h2, h3⟩ := h
  exact ⟨n, h2, h3⟩
theorem hc_heat (hfl : l.stackTraces = false) (hI : Inv C J N mst bst ρ a c) (hi : i < N 1) {fn m9 : Nat} (hf1 : 200 ≤ fn) (hf2 : fn ≤ 1300) (hm1 : 1 ≤ m9) (hm2 : m9 ≤ 200) : ((∀ lw, HC l D T ea mi sa yL_heat wsL_heat lw J ad N mst bst ρ N ρ [.ref (ad 0), .int (nI i), .int (nI fn), .int (nI m9)] (-1000003)) ∧ 0 < c i) ∨ ∃ β' α' : Nat → Int32, (∀ lw, HC l D T ea mi sa yL_heat wsL_heat lw J ad N mst bst ρ N (upB ρ i β' α' (ρ (102 + 3 * i))) [.ref (ad 0), .int (nI i), .int (nI fn), .int (nI m9)] (β' 8)) ∧ β' 14 = -1 ∧ Inv C J N mst bst (upB ρ i β' α' (ρ (102 + 3 * i))) a (upd c i (c i + 1)) := by
  obtain ⟨i12, c1, c2⟩ := I_liB hI hi
  obtain ⟨hmo, ⟨A, A1, A2, A3, v, x, y, z, v1, v2, v3, v4, v5⟩, b7, b8, ⟨b9, w9⟩, b10, b11, b12, hp, hld, b17⟩ := I_B hI hi
  obtain ⟨⟨t0, t1, t2, t3⟩, -, -⟩ := hI.2.1 (bst i) (I_b4 hI hi)
  obtain ⟨h9, -, h92, h93⟩ := w9
  have f1 : ¬ nI fn < 200 := fun q => absurd ((nI_ltI (b := 200) (by omega) (by decide)).mp q) (by omega)
  have f2 : nI fn ≤ 1300 := (nI_leI (b := 1300) (by omega) (by decide)).mpr hf2
  by_cases hh : ρ (100 + 3 * i) 9 < ρ (2 + bst i) 0
  · refine Or.inr ?_
    obtain ⟨t, u1, u2, u3⟩ := vS_heat (nI fn) (ρ (100 + 3 * i) 7) v1 (by omega) x m9
    rw [← v2] at u3
    have hlt : h9 < t0 := (nI_ltI (by omega) (by omega)).mp (by rw [← h93, ← t3]; exact hh)
    have hf : nbd 20 1300 (nI fn) := ⟨fn, by omega, hf2, rfl⟩
    exact ⟨_, _, fun lw => hcU hI hi (lk_heat l D T ea mi sa _ (nI i) (nI fn) (nI m9) (zI_H (ch_heat l D T _ ad _ _ _ _ _ _ _ _ _ _ _ _ _ _ i hi c1 c2 (liF_at hi) (nI fn) m9 f1 f2 hm1 hm2 hh (bndn b10))) ⟨rfl, rfl⟩ (fun _ _ _ => rfl) (fun _ => Nat.le_refl _)) ⟨by decide, by decide, by decide, by decide⟩ ⟨by decide, by decide⟩ lw, rfl, I_upB (Nat.le_refl C) hi hI (fun k hk => upd_ne _ _ hk) ⟨hmo, ⟨A, A1, A2, A3, v - t, x + t, y, z, u2, u3, v3, v4, by omega⟩, nbd_hSk hf b7 m9, nbd_hCo hf b7 b8 m9, ⟨(congrArg (· + 1) b9).trans (upd_same _ _ _).symm, h9 + 1, Nat.zero_le _, by omega, (congrArg (· + 1) h93).trans (nI_1 h9)⟩, hGr_n b10 m9, b11, b12, hp, Or.inl rfl, b17⟩⟩
  · refine Or.inl ⟨fun lw => hc5 hI hi (lk_heat_3 l D T ea mi sa _ (nI i) (nI fn) (nI m9) (ch_heat_h l hfl D T ea mi sa _ ad _ _ _ _ _ _ _ _ _ _ _ _ i hi c1 c2 (liF_at hi) (nI fn) m9 f1 f2 hm1 hm2 hh) ⟨rfl, rfl⟩) ⟨by decide, by decide, by decide, by decide⟩ ⟨by decide, by decide⟩ lw, ?_⟩
    rw [← b9, h93]
    refine (nI_ltI (a := 0) (by decide) (by omega)).mpr ?_
    have hge : ¬ h9 < t0 := fun q => hh (by rw [h93, t3]; exact (nI_ltI (by omega) (by omega)).mpr q)
    omega
theorem hc_cool (hI : Inv C J N mst bst ρ a c) (hi : i < N 1) {m9 : Nat} (hm1 : 1 ≤ m9) (hm2 : m9 ≤ 200) : ∃ β' : Nat → Int32, (∀ lw, HC l D T ea mi sa yL_cool wsL_cool lw J ad N mst bst ρ N (upB ρ i β' (ρ (101 + 3 * i)) (ρ (102 + 3 * i))) [.ref (ad 0), .int (nI i), .int (nI m9)] (β' 8)) ∧ Inv C J N mst bst (upB ρ i β' (ρ (101 + 3 * i)) (ρ (102 + 3 * i))) a c := by
  obtain ⟨i12, c1, c2⟩ := I_liB hI hi
  obtain ⟨hmo, ⟨A, A1, A2, A3, v, x, y, z, v1, v2, v3, v4, v5⟩, b7, b8, ⟨b9, w9⟩, b10, b11, b12, hp, hld, b17⟩ := I_B hI hi
  exact ⟨_, fun lw => hcU hI hi (lk_cool l D T ea mi sa _ (nI i) (nI m9) (zI_H (ch_cool l D T _ ad _ _ _ _ _ _ _ _ _ _ _ _ _ _ i hi c1 c2 (liF_at hi) m9 hm1 hm2)) ⟨rfl, rfl⟩ (fun _ _ _ => rfl) (fun _ => Nat.le_refl _)) ⟨by decide, by decide, by decide, by decide⟩ ⟨by decide, by decide⟩ lw, I_upB (Nat.le_refl C) hi hI (fun k hk => rfl) ⟨hmo, ⟨A, A1, A2, A3, v, x, y, z, v1, v2, v3, v4, v5⟩, nbd_cSk b7 m9, nbd_cCo b7 b8 m9, ⟨b9, w9⟩, b10, b11, b12, hp, hld, b17⟩⟩
theorem hc_cut (hI : Inv C J N mst bst ρ a c) (hi : i < N 1) {j mu : Nat} (hj : j < 8) (hm1 : 1 ≤ mu) (hm2 : mu ≤ 200) : ∃ (β' α' : Nat → Int32) (t : Nat), (∀ lw, HC l D T ea mi sa yL_cut wsL_cut lw J ad N mst bst ρ N (upB ρ i β' α' (ρ (102 + 3 * i))) [.ref (ad 0), .int (nI i), .int (nI j), .int (nI mu)] (nI t)) ∧ t ≤ mu ∧ β' 8 = ρ (100 + 3 * i) 8 ∧ VO α' 0 = VO (ρ (101 + 3 * i)) 0 - nI t ∧ Inv C J N mst bst (upB ρ i β' α' (ρ (102 + 3 * i))) a c := by
  obtain ⟨i12, c1, c2⟩ := I_liB hI hi
  obtain ⟨hmo, ⟨A, A1, A2, A3, v, x, y, z, v1, v2, v3, v4, v5⟩, b7, b8, ⟨b9, w9⟩, b10, b11, b12, hp, hld, b17⟩ := I_B hI hi
  have m1 : ¬ nI mu < 1 := fun q => absurd ((nI_ltI (b := 1) (by omega) (by decide)).mp q) (by omega)
  have m2 : nI mu ≤ 200 := (nI_leI (b := 200) (by omega) (by decide)).mpr hm2
  obtain ⟨t, t1, t2, t3, t4⟩ := vS_cut v1 (by omega) hj hm1 (show mu < 2 ^ 30 by omega)
  have ch := ch_cut l D T (ad 0) ad (ρ 0 0) (ρ 7 0) (ad 21) (cap (N 1)) (N 1) (liF ad (fun i => 100 + 3 * i) (N 1)) (ad (100 + 3 * i)) (ad (101 + 3 * i)) (ad (102 + 3 * i)) (ad (2 + bst i)) (ρ (100 + 3 * i)) (ρ (101 + 3 * i)) (ρ (102 + 3 * i)) (ρ (2 + bst i)) i hi c1 c2 (liF_at hi) j hj (nI mu) m1 m2
  rw [t3] at ch
  refine ⟨_, _, t, fun lw => hcU hI hi (lk_cut l D T ea mi sa _ (nI i) (nI j) (nI mu) (zI_H ch) ⟨rfl, rfl⟩ (fun _ _ _ => rfl) (fun _ => Nat.le_refl _)) ⟨by decide, by decide, by decide, by decide⟩ ⟨by decide, by decide⟩ lw, t1, rfl, ?_, I_upB (Nat.le_refl C) hi hI (fun k hk => rfl) ⟨hmo, ⟨A, A1, A2, A3, v - t, x, y, z + t, t4, v2, v3, ?_, by omega⟩, b7, b8, ⟨b9, w9⟩, b10, b11, b12, hp, hld, b17⟩⟩
  · rw [vS_VO t4, vS_VO v1, pk_sub t2]
  · show ρ (100 + 3 * i) 6 + nI t = nI (z + t)
    rw [v4, nI_add]
theorem lap_n {C : Nat} {v : Int32} (h : nbd 0 C v) (p q : Int32) : nbd 0 (C + 1) (v + lapv p q) := by
  obtain ⟨n, -, n2, n3⟩ := h
  unfold lapv
  rw [n3]
  split
  · exact ⟨n + 1, Nat.zero_le _, by omega, nI_1 n⟩
  · split
    · exact ⟨n + 1, Nat.zero_le _, by omega, nI_1 n⟩
    · exact ⟨n, Nat.zero_le _, by omega, Int32.add_zero _⟩
theorem grv_tab : ∀ g, g < 201 → ∀ n, n < 21 → nI g - nI n < 5 ∨ n + 5 ≤ g := by decide +kernel
theorem grv_n {gr co : Int32} {n : Nat} (h : nbd 5 200 gr) (hn : n ≤ 20) : nbd 5 200 (grv gr (nI n) co) := by
  obtain ⟨g, g1, g2, g3⟩ := h
  unfold grv
  rw [g3]
  split
  · exact ⟨g, g1, g2, rfl⟩
  · split
    · exact ⟨5, by decide, by decide, rfl⟩
    · next q =>
      have h2 := (grv_tab g (by omega) n (by omega)).resolve_left q
      exact ⟨g - n, by omega, by omega, pk_sub (by omega)⟩
theorem fo_1 {fo : Nat} (h1 : 1 ≤ fo) (h2 : fo ≤ 20) : ¬ nI fo < 1 ∧ nI fo ≤ 20 := ⟨fun q => absurd ((nI_ltI (b := 1) (by omega) (by decide)).mp q) (by omega), (nI_leI (b := 20) (by omega) (by decide)).mpr h2⟩
theorem hc_blow_c (hfl : l.stackTraces = false) (hI : Inv C J N mst bst ρ a c) (hi : i < N 1) {j fo : Nat} {kd : Int32} (hj : j < 8) (h1 : 1 ≤ fo) (h2 : fo ≤ 20) (hk : kd = 0 ∨ kd = 1) (hc : ¬ ρ (100 + 3 * i) 12 = 0) (lw : va_W) : HC l D T ea mi sa yL_blow wsL_blow lw J ad N mst bst ρ N ρ [.ref (ad 0), .int (nI i), .int (nI j), .int kd, .int (nI fo)] (-1000003) := by
  obtain ⟨i12, c1, c2⟩ := I_liB hI hi
  exact hc4 hI hi (lk_blow_3 l D T ea mi sa _ (nI i) (nI j) kd (nI fo) (ch_blow_c l hfl D T ea mi sa _ ad _ _ _ _ _ _ _ _ _ _ _ i hi c1 c2 (liF_at hi) j hj kd (nI fo) (fo_1 h1 h2).1 (fo_1 h1 h2).2 hk hc) ⟨rfl, rfl⟩) ⟨by decide, by decide, by decide, by decide⟩ ⟨by decide, by decide⟩ lw
theorem hc_blow_k (hI : Inv C J N mst bst ρ a c) (hi : i < N 1) {j fo : Nat} {kd : Int32} (hj : j < 8) (h1 : 1 ≤ fo) (h2 : fo ≤ 20) (hk : kd = 0 ∨ kd = 1) (hc : ρ (100 + 3 * i) 12 = 0) (h8 : ρ (100 + 3 * i) 8 < 700) : ∃ β' : Nat → Int32, (∀ lw, HC l D T ea mi sa yL_blow wsL_blow lw J ad N mst bst ρ N (upB ρ i β' (ρ (101 + 3 * i)) (ρ (102 + 3 * i))) [.ref (ad 0), .int (nI i), .int (nI j), .int kd, .int (nI fo)] (-1)) ∧ β' 12 = 1 ∧ Inv C J N mst bst (upB ρ i β' (ρ (101 + 3 * i)) (ρ (102 + 3 * i))) a c := by
  obtain ⟨i12, c1, c2⟩ := I_liB hI hi
  obtain ⟨hmo, ⟨A, A1, A2, A3, v, x, y, z, v1, v2, v3, v4, v5⟩, b7, b8, ⟨b9, w9⟩, b10, b11, b12, hp, hld, b17⟩ := I_B hI hi
  refine ⟨upd (ρ (100 + 3 * i)) 12 1, fun lw => ?_, rfl, I_upB (Nat.le_refl C) hi hI (fun k hk => rfl) ⟨hmo, ⟨A, A1, A2, A3, v, x, y, z, v1, v2, v3, v4, v5⟩, b7, b8, ⟨b9, w9⟩, b10, b11, Or.inr rfl, hp, hld, b17⟩⟩
  rcases hk with rfl | rfl
  · exact hcU hI hi (lk_blow l D T ea mi sa _ (nI i) (nI j) 0 (nI fo) (ch_blow_crack0 l D T ea mi sa _ ad _ _ _ _ _ _ _ _ _ _ _ _ _ _ i hi c1 c2 (liF_at hi) j hj (nI fo) (fo_1 h1 h2).1 (fo_1 h1 h2).2 hc h8) ⟨rfl, rfl⟩ (fun _ _ _ => rfl) (fun _ => Nat.le_refl _)) ⟨by decide, by decide, by decide, by decide⟩ ⟨by decide, by decide⟩ lw
  · exact hcU hI hi (lk_blow l D T ea mi sa _ (nI i) (nI j) 1 (nI fo) (ch_blow_crack1 l D T ea mi sa _ ad _ _ _ _ _ _ _ _ _ _ _ _ _ _ i hi c1 c2 (liF_at hi) j hj (nI fo) (fo_1 h1 h2).1 (fo_1 h1 h2).2 hc h8) ⟨rfl, rfl⟩ (fun _ _ _ => rfl) (fun _ => Nat.le_refl _)) ⟨by decide, by decide, by decide, by decide⟩ ⟨by decide, by decide⟩ lw
theorem hc_blow_o (hI : Inv C J N mst bst ρ a c) (hi : i < N 1) {j fo : Nat} {kd : Int32} (hj : j < 8) (h1 : 1 ≤ fo) (h2 : fo ≤ 20) (hk : kd = 0 ∨ kd = 1) (hc : ρ (100 + 3 * i) 12 = 0) (h8 : ¬ ρ (100 + 3 * i) 8 < 700) : ∃ (β' α' : Nat → Int32) (t : Nat), (∀ lw, HC l D T ea mi sa yL_blow wsL_blow lw J ad N mst bst ρ N (upB ρ i β' α' (ρ (102 + 3 * i))) [.ref (ad 0), .int (nI i), .int (nI j), .int kd, .int (nI fo)] (nI t)) ∧ t ≤ fo ∧ β' 12 = 0 ∧ VO α' 0 = VO (ρ (101 + 3 * i)) 0 ∧ Inv (C + 1) J N mst bst (upB ρ i β' α' (ρ (102 + 3 * i))) a c := by
  obtain ⟨i12, c1, c2⟩ := I_liB hI hi
  obtain ⟨hmo, ⟨A, A1, A2, A3, v, x, y, z, v1, v2, v3, v4, v5⟩, b7, b8, ⟨b9, w9⟩, b10, b11, b12, hp, hld, b17⟩ := I_B hI hi
  rcases hk with rfl | rfl
  · obtain ⟨x9, q1, q2, q3⟩ := vS_at v1 (j := j) hj
    have e9 : imin (nI fo) (ρ (101 + 3 * i) j - 1) = nI (min fo (x9 - 1)) := by rw [q1, show nI x9 - 1 = nI (x9 - 1) from pk_sub (a := x9) (b := 1) (by omega), imin_n (by omega) (by omega)]
    have ch := ch_blow_ok0 l D T ea mi sa (ad 0) ad (ρ 0 0) (ρ 7 0) (ad 21) (cap (N 1)) (N 1) (liF ad (fun i => 100 + 3 * i) (N 1)) (ad (100 + 3 * i)) (ad (101 + 3 * i)) (ad (102 + 3 * i)) (ad (2 + bst i)) (ρ (100 + 3 * i)) (ρ (101 + 3 * i)) (ρ (102 + 3 * i)) (ρ (2 + bst i)) i hi c1 c2 (liF_at hi) j hj (nI fo) (fo_1 h1 h2).1 (fo_1 h1 h2).2 hc h8
    rw [e9] at ch
    have w2 := vS_blow v1 (by omega) (g := j) (t := (nbr j)) hj (nbr_lt hj) (nbr_ne j) q1 (by omega) (m := min fo (x9 - 1)) (by omega)
    exact ⟨_, _, min fo (x9 - 1), fun lw => hcU hI hi (lk_blow l D T ea mi sa _ (nI i) (nI j) 0 (nI fo) ch ⟨rfl, rfl⟩ (fun _ _ _ => rfl) (fun _ => Nat.le_refl _)) ⟨by decide, by decide, by decide, by decide⟩ ⟨by decide, by decide⟩ lw, Nat.min_le_left _ _, hc, (vS_VO w2).trans (vS_VO v1).symm, I_upB (Nat.le_succ C) hi hI (fun k hk => rfl) ⟨hmo, ⟨A, A1, A2, A3, v, x, y, z, w2, v2, v3, v4, v5⟩, nbd_clS b7, nbd_wrm (nbd_clS b7) b8, ⟨b9, w9⟩, (by rw [upd_ne _ _ (show (10 : Nat) ≠ 11 by decide), upd_same]; exact grv_n b10 h2), (by rw [upd_same]; exact lap_n b11 _ _), b12, hp, hld, b17⟩⟩
  · obtain ⟨x9, q1, q2, q3⟩ := vS_at v1 (j := (nbr j)) (nbr_lt hj)
    have e9 : imin (nI fo) (ρ (101 + 3 * i) (nbr j) - 1) = nI (min fo (x9 - 1)) := by rw [q1, show nI x9 - 1 = nI (x9 - 1) from pk_sub (a := x9) (b := 1) (by omega), imin_n (by omega) (by omega)]
    have ch := ch_blow_ok1 l D T ea mi sa (ad 0) ad (ρ 0 0) (ρ 7 0) (ad 21) (cap (N 1)) (N 1) (liF ad (fun i => 100 + 3 * i) (N 1)) (ad (100 + 3 * i)) (ad (101 + 3 * i)) (ad (102 + 3 * i)) (ad (2 + bst i)) (ρ (100 + 3 * i)) (ρ (101 + 3 * i)) (ρ (102 + 3 * i)) (ρ (2 + bst i)) i hi c1 c2 (liF_at hi) j hj (nI fo) (fo_1 h1 h2).1 (fo_1 h1 h2).2 hc h8
    rw [e9] at ch
    have w2 := vS_blow v1 (by omega) (g := (nbr j)) (t := j) (nbr_lt hj) hj (fun e => nbr_ne j e.symm) q1 (by omega) (m := min fo (x9 - 1)) (by omega)
    exact ⟨_, _, min fo (x9 - 1), fun lw => hcU hI hi (lk_blow l D T ea mi sa _ (nI i) (nI j) 1 (nI fo) ch ⟨rfl, rfl⟩ (fun _ _ _ => rfl) (fun _ => Nat.le_refl _)) ⟨by decide, by decide, by decide, by decide⟩ ⟨by decide, by decide⟩ lw, Nat.min_le_left _ _, hc, (vS_VO w2).trans (vS_VO v1).symm, I_upB (Nat.le_succ C) hi hI (fun k hk => rfl) ⟨hmo, ⟨A, A1, A2, A3, v, x, y, z, w2, v2, v3, v4, v5⟩, nbd_clS b7, nbd_wrm (nbd_clS b7) b8, ⟨b9, w9⟩, (by rw [upd_ne _ _ (show (10 : Nat) ≠ 11 by decide), upd_same]; exact grv_n b10 h2), (by rw [upd_same]; exact lap_n b11 _ _), b12, hp, hld, b17⟩⟩
theorem QN_LH {β κ : Nat → Int32} {ld n : Nat} {kk : Nat → Nat} (hl : ld < 20) (h : QN β κ ld kk n) : LH (fun j => if β 14 = -1 then 0 else hrc (κ j) (β 16)) = nI (mn8 (hvq kk n) 7) ∧ mn8 (hvq kk n) 7 ≤ 70 ∧ ∀ j, j < 8 → mn8 (hvq kk n) 7 ≤ hvq kk n j := LH_n (f := fun j => if β 14 = -1 then 0 else hrc (κ j) (β 16)) (fun j hj => QN_hd hl h hj)
theorem QN_up {β κ : Nat → Int32} {ld n w : Nat} {kk : Nat → Nat} (h : QN β κ ld kk n) (_h1 : 100 ≤ w) (h2 : w ≤ 700) : QN (upd β 16 (nI (max n w))) κ ld kk (max n w) := ⟨h.1, rfl, ⟨by have := h.2.2.1.1; omega, by have := h.2.2.1.2; omega⟩, h.2.2.2⟩
theorem QN_max {n w : Nat} (hn : n ≤ 700) (hw : w ≤ 700) : (if nI n < nI w then nI w else nI n) = nI (max n w) := by
  by_cases q : n < w
  · rw [if_pos ((nI_ltI (by omega) (by omega)).mpr q), Nat.max_eq_right (by omega)]
  · rw [if_neg (fun q2 => q ((nI_ltI (by omega) (by omega)).mp q2)), Nat.max_eq_left (by omega)]
theorem LDc_of {n3 : Nat} {β κ : Nat → Int32} {ld n : Nat} {kk : Nat → Nat} (hl : ld < n3) (h : QN β κ ld kk n) : LDc n3 β κ := Or.inr ⟨ld, hl, h.1, ⟨n, h.2.2.1.1, h.2.2.1.2, h.2.1⟩, fun j hj => ⟨kk j, Nat.zero_le _, (h.2.2.2 j hj).2, (h.2.2.2 j hj).1⟩⟩
theorem hc_temper (hI : Inv C J N mst bst ρ a c) (hi : i < N 1) {ld n w : Nat} {kk : Nat → Nat} (hl : ld < N 3) (hq : QN (ρ (100 + 3 * i)) (ρ (102 + 3 * i)) ld kk n) (hw1 : 100 ≤ w) (hw2 : w ≤ 700) : (∀ lw, HC l D T ea mi sa yL_temper wsL_temper lw J ad N mst bst ρ N (upB ρ i (upd (ρ (100 + 3 * i)) 16 (nI (max n w))) (ρ (101 + 3 * i)) (ρ (102 + 3 * i))) [.ref (ad 0), .int (nI i), .int (nI w)] (nI (mn8 (hvq kk (max n w)) 7))) ∧ Inv C J N mst bst (upB ρ i (upd (ρ (100 + 3 * i)) 16 (nI (max n w))) (ρ (101 + 3 * i)) (ρ (102 + 3 * i))) a c := by
  obtain ⟨i12, c1, c2⟩ := I_liB hI hi
  obtain ⟨hmo, ⟨A, A1, A2, A3, v, x, y, z, v1, v2, v3, v4, v5⟩, b7, b8, ⟨b9, w9⟩, b10, b11, b12, hp, hld, b17⟩ := I_B hI hi
  have hN3 := hI.2.2.2.1.1
  have m1 : ¬ nI w < 100 := fun q => absurd ((nI_ltI (b := 100) (by omega) (by decide)).mp q) (by omega)
  have m2 : nI w ≤ 700 := (nI_leI (b := 700) (by omega) (by decide)).mpr hw2
  have ch := ch_temper l D T (ad 0) ad (ρ 0 0) (ρ 7 0) (ad 21) (cap (N 1)) (N 1) (liF ad (fun i => 100 + 3 * i) (N 1)) (ad (100 + 3 * i)) (ad (101 + 3 * i)) (ad (102 + 3 * i)) (ad (2 + bst i)) (ρ (100 + 3 * i)) (ρ (101 + 3 * i)) (ρ (102 + 3 * i)) (ρ (2 + bst i)) i hi c1 c2 (liF_at hi) (ρ 9) (nI w) m1 m2 (by rw [hq.1]; exact isl_20 (by omega))
  have e9 : (if ρ (100 + 3 * i) 16 < nI w then nI w else ρ (100 + 3 * i) 16) = nI (max n w) := by
    rw [hq.2.1]
    exact QN_max hq.2.2.1.2 hw2
  rw [e9] at ch
  have e8 : LH (fun j => if ρ (100 + 3 * i) 14 = -1 then 0 else hrc (ρ (102 + 3 * i) j) (nI (max n w))) = nI (mn8 (hvq kk (max n w)) 7) := (QN_LH (show ld < 20 by omega) (QN_up hq hw1 hw2)).1
  rw [e8] at ch
  have I1 := I_upB (c' := c) (Nat.le_refl C) hi hI (β := upd (ρ (100 + 3 * i)) 16 (nI (max n w))) (α := ρ (101 + 3 * i)) (κ := ρ (102 + 3 * i)) (fun k hk => rfl) ⟨hmo, ⟨A, A1, A2, A3, v, x, y, z, v1, v2, v3, v4, v5⟩, b7, b8, ⟨b9, w9⟩, b10, b11, b12, hp, LDc_of hl (QN_up hq hw1 hw2), b17⟩
  refine ⟨fun lw => ?_, I1⟩
  have h := hcU8 hI hi (tm := ρ 9) (lk_temper l D T ea mi sa _ (nI i) (nI w) (zI_H ch) ⟨rfl, rfl⟩ (fun _ _ _ => rfl) (fun _ => Nat.le_refl _)) ⟨by decide, by decide, by decide, by decide⟩ ⟨by decide, by decide⟩ lw
  have e : upR (upB ρ i (upd (ρ (100 + 3 * i)) 16 (nI (max n w))) (ρ (101 + 3 * i)) (ρ (102 + 3 * i))) 9 (ρ 9) = upB ρ i (upd (ρ (100 + 3 * i)) 16 (nI (max n w))) (ρ (101 + 3 * i)) (ρ (102 + 3 * i)) := by
    funext k
    by_cases q : k = 9
    · rw [q, upR_at, upB_o (k := 9) (by omega) (by omega) (by omega)]
    · rw [upR_ne _ _ q]
  rw [e] at h
  exact h
theorem hc_temper_n (hfl : l.stackTraces = false) (hI : Inv C J N mst bst ρ a c) (hi : i < N 1) {w : Nat} (hw1 : 100 ≤ w) (hw2 : w ≤ 700) (h14 : ρ (100 + 3 * i) 14 = -1) (lw : va_W) : HC l D T ea mi sa yL_temper wsL_temper lw J ad N mst bst ρ N ρ [.ref (ad 0), .int (nI i), .int (nI w)] (-1000003) := by
  obtain ⟨i12, c1, c2⟩ := I_liB hI hi
  have m1 : ¬ nI w < 100 := fun q => absurd ((nI_ltI (b := 100) (by omega) (by decide)).mp q) (by omega)
  have m2 : nI w ≤ 700 := (nI_leI (b := 700) (by omega) (by decide)).mpr hw2
  exact hcT hI hi (lk_temper_3 l D T ea mi sa _ (nI i) (nI w) (ch_temper_l l hfl D T ea mi sa _ ad _ _ _ _ _ _ _ _ _ _ _ i hi c1 c2 (liF_at hi) (ρ 9) (nI w) m1 m2 (by rw [h14]; rfl)) ⟨rfl, rfl⟩) ⟨by decide, by decide, by decide, by decide⟩ ⟨by decide, by decide⟩ lw
theorem hc_test_n (hfl : l.stackTraces = false) (hI : Inv C J N mst bst ρ a c) (hi : i < N 1) (h14 : ρ (100 + 3 * i) 14 = -1) (lw : va_W) : HC l D T ea mi sa yL_test wsL_test lw J ad N mst bst ρ N ρ [.ref (ad 0), .int (nI i)] (-1000003) := by
  obtain ⟨i12, c1, c2⟩ := I_liB hI hi
  exact hcT hI hi (lk_test_2 l D T ea mi sa _ (nI i) (ch_test_l l hfl D T ea mi sa _ ad _ _ _ _ _ _ _ _ _ _ _ i hi c1 c2 (liF_at hi) (ρ 9) (by rw [h14]; rfl)) ⟨rfl, rfl⟩) ⟨by decide, by decide, by decide, by decide⟩ ⟨by decide, by decide⟩ lw
theorem hc_test (hI : Inv C J N mst bst ρ a c) (hi : i < N 1) {ld n : Nat} {kk : Nat → Nat} (hl : ld < N 3) (hq : QN (ρ (100 + 3 * i)) (ρ (102 + 3 * i)) ld kk n) : ∃ ρ' : Nat → Nat → Int32, (∀ lw, HC l D T ea mi sa yL_test wsL_test lw J ad N mst bst ρ N ρ' [.ref (ad 0), .int (nI i)] (nI (mn8 (hvq kk n) 7))) ∧ ρ' (100 + 3 * i) 17 = 0 ∧ Inv C J N mst bst ρ' a c := by
  obtain ⟨i12, c1, c2⟩ := I_liB hI hi
  obtain ⟨hmo, ⟨A, A1, A2, A3, v, x, y, z, v1, v2, v3, v4, v5⟩, b7, b8, ⟨b9, w9⟩, b10, b11, b12, hp, hld, b17⟩ := I_B hI hi
  have hN3 := hI.2.2.2.1.1
  have ch := ch_test l D T (ad 0) ad (ρ 0 0) (ρ 7 0) (ad 21) (cap (N 1)) (N 1) (liF ad (fun i => 100 + 3 * i) (N 1)) (ad (100 + 3 * i)) (ad (101 + 3 * i)) (ad (102 + 3 * i)) (ad (2 + bst i)) (ρ (100 + 3 * i)) (ρ (101 + 3 * i)) (ρ (102 + 3 * i)) (ρ (2 + bst i)) i hi c1 c2 (liF_at hi) (ρ 9) ld (by omega) hq.1 (isl_20 (by omega))
  rw [(QN_LH (show ld < 20 by omega) hq).1] at ch
  refine ⟨_, fun lw => hcU8 hI hi (lk_test l D T ea mi sa _ (nI i) (zI_H ch) ⟨rfl, rfl⟩ (fun _ _ _ => rfl) (fun _ => Nat.le_refl _)) ⟨by decide, by decide, by decide, by decide⟩ ⟨by decide, by decide⟩ lw, ?_, I_irr (I_upB (c' := c) (Nat.le_refl C) hi hI (β := upd (ρ (100 + 3 * i)) 17 0) (α := ρ (101 + 3 * i)) (κ := ρ (102 + 3 * i)) (fun k hk => rfl) ⟨hmo, ⟨A, A1, A2, A3, v, x, y, z, v1, v2, v3, v4, v5⟩, b7, b8, ⟨b9, w9⟩, b10, b11, b12, hp, hld, Or.inl rfl⟩) (fun j h1 h2 h3 h4 => upR_ne _ _ h1)⟩
  rw [upR_ne _ _ (show 100 + 3 * i ≠ 9 by omega), upB_b]
  rfl
theorem act_pop : ∀ p, p < 256 → ∀ t, t < 3 → actN p t < 256 ∧ pop (actN p t) = pop p := by decide +kernel
theorem hc_layer (hI : Inv C J N mst bst ρ a c) (hi : i < N 1) {p t : Nat} (hp9 : p < 256) (h13 : ρ (100 + 3 * i) 13 = nI p) (ht : t < 3) (h8 : 900 ≤ ρ (100 + 3 * i) 8) : (∀ lw, HC l D T ea mi sa yL_layer wsL_layer lw J ad N mst bst ρ N (upB ρ i (upd (ρ (100 + 3 * i)) 13 (nI (actN p t))) (ρ (101 + 3 * i)) (ρ (102 + 3 * i))) [.ref (ad 0), .int (nI i), .int (nI t)] (nI (actN p t))) ∧ Inv C J N mst bst (upB ρ i (upd (ρ (100 + 3 * i)) 13 (nI (actN p t))) (ρ (101 + 3 * i)) (ρ (102 + 3 * i))) a c := by
  obtain ⟨i12, c1, c2⟩ := I_liB hI hi
  obtain ⟨hmo, ⟨A, A1, A2, A3, v, x, y, z, v1, v2, v3, v4, v5⟩, b7, b8, ⟨b9, w9⟩, b10, b11, b12, hp, hld, b17⟩ := I_B hI hi
  refine ⟨fun lw => hcU hI hi (lk_layer l D T ea mi sa _ (nI i) (nI t) (zI_H (ch_layer l D T _ ad _ _ _ _ _ _ _ _ _ _ _ _ _ _ i hi c1 c2 (liF_at hi) p t hp9 ht h13 h8)) ⟨rfl, rfl⟩ (fun _ _ _ => rfl) (fun _ => Nat.le_refl _)) ⟨by decide, by decide, by decide, by decide⟩ ⟨by decide, by decide⟩ lw, I_upB (Nat.le_refl C) hi hI (fun k hk => rfl) ⟨hmo, ⟨A, A1, A2, A3, v, x, y, z, v1, v2, v3, v4, v5⟩, b7, b8, ⟨b9, w9⟩, b10, b11, b12, ⟨actN p t, (act_pop p hp9 t ht).1, ?_, rfl⟩, hld, b17⟩⟩
  obtain ⟨p', p1, p2, p3⟩ := hp
  have e : p' = p := (nI_eq (by omega) (by omega)).mp (p3.symm.trans h13)
  rw [(act_pop p hp9 t ht).2, ← e]
  exact p2
theorem hc_layer_c (hfl : l.stackTraces = false) (hI : Inv C J N mst bst ρ a c) (hi : i < N 1) {t : Nat} (ht : t < 3) (h8 : ¬ 900 ≤ ρ (100 + 3 * i) 8) (lw : va_W) : HC l D T ea mi sa yL_layer wsL_layer lw J ad N mst bst ρ N ρ [.ref (ad 0), .int (nI i), .int (nI t)] (-1000003) := by
  obtain ⟨i12, c1, c2⟩ := I_liB hI hi
  exact hc4 hI hi (lk_layer_3 l D T ea mi sa _ (nI i) (nI t) (ch_layer_c l hfl D T ea mi sa _ ad _ _ _ _ _ _ _ _ _ _ _ i hi c1 c2 (liF_at hi) t ht h8) ⟨rfl, rfl⟩) ⟨by decide, by decide, by decide, by decide⟩ ⟨by decide, by decide⟩ lw
theorem ndQ : [0, 7, 21, 100 + 3 * i, 10, 11, 12, 13].Nodup := by
  simp only [List.nodup_cons, List.mem_cons, List.not_mem_nil, or_false, List.nodup_nil, and_true, not_false_eq_true]
  omega
theorem liQ (hi : i < N 1) : ∀ j ∈ [0, 7, 21, 100 + 3 * i, 10, 11, 12, 13], liv N j := by
  intro j hj
  simp only [List.mem_cons, List.not_mem_nil, or_false] at hj
  unfold liv
  omega
theorem hcQ {cy : MethodName} {cws : List Cond} {las : List Value} {k : Int32} {rm : Room} {mc ms : Nat} (hI : Inv C J N mst bst ρ a c) (hi : i < N 1) {f0 f1 f2 : Nat → Int32} (hw : ZIH l cy cws rm (zX ea mi sa) D T (S := Unit) (BQ ad T N bst ρ i (ρ 11) (ρ 12) (ρ 13)) (fun _ => BQ ad T N bst ρ i f0 f1 f2) las k mc ms) (hrm : rm.frames ≤ 8 ∧ rm.locals ≤ 300 ∧ rm.cells ≤ 5 ∧ rm.slots ≤ 70) (hm : mc ≤ 5 ∧ ms ≤ 70) (lw : va_W) : HC l D T ea mi sa cy cws lw J ad N mst bst ρ N (upP ρ f0 f1 f2) las k := by
  have h0 : 0 < N 1 := Nat.lt_of_le_of_lt (Nat.zero_le i) hi
  have hb := I_b4 hI hi
  refine hc_jr hI.1 ndQ (liQ hi) (bq_iw (I_liB hI hi).1 h0) ((bq_iw (I_liB hI hi).1 h0).trans ?_) (fun j hj => ?_) hw hrm hm lw
  · have e : ∀ k, k < 11 ∨ 13 < k → upP ρ f0 f1 f2 k = ρ k := fun k h => upP_o h
    unfold BQ B4
    rw [e 0 (by decide), e 7 (by decide), e (100 + 3 * i) (by omega)]
    rfl
  · simp only [List.mem_cons, List.not_mem_nil, or_false, not_or] at hj
    unfold upP
    rw [if_neg hj.2.2.2.2.2.1, if_neg hj.2.2.2.2.2.2.1, if_neg hj.2.2.2.2.2.2.2]
theorem hc_fewest (hI : Inv C J N mst bst ρ a c) (hi : i < N 1) {p j : Nat} (hp9 : p < 256) (hj : j < 256) (h13 : ρ (100 + 3 * i) 13 = nI p) : ∃ f0 f1 f2 : Nat → Int32, (∀ lw, HC l D T ea mi sa yL_fewest wsL_fewest lw J ad N mst bst ρ N (upP ρ f0 f1 f2) [.ref (ad 0), .int (nI i), .int (nI j)] ((BF (ρ 11) (ρ 13) p).1 j)) ∧ Inv C J N mst bst (upP ρ f0 f1 f2) a c := by
  obtain ⟨i12, c1, c2⟩ := I_liB hI hi
  have h0 : 0 < N 1 := Nat.lt_of_le_of_lt (Nat.zero_le i) hi
  refine ⟨_, _, _, fun lw => hcQ hI hi (lk_fewest l D T ea mi sa _ (nI i) (nI j) (zI_H (ch_fewest l D T _ ad _ _ _ _ _ _ _ _ _ _ _ i hi c1 c2 (liF_at hi) (ρ 11) (ρ 12) (ρ 13) p j hp9 hj h13)) ⟨rfl, rfl⟩ (fun _ _ _ => rfl) (fun _ => Nat.le_refl _)) ⟨by decide, by decide, by decide, by decide⟩ ⟨by decide, by decide⟩ lw, I_irr hI (fun k h1 h2 h3 h4 => ?_)⟩
  unfold upP
  rw [if_neg h2, if_neg h3, if_neg h4]
theorem hc_first (hI : Inv C J N mst bst ρ a c) (hi : i < N 1) {p j : Nat} (hp9 : p < 256) (hj : j < 256) (h13 : ρ (100 + 3 * i) 13 = nI p) : ∃ f0 f1 f2 : Nat → Int32, (∀ lw, HC l D T ea mi sa yL_first wsL_first lw J ad N mst bst ρ N (upP ρ f0 f1 f2) [.ref (ad 0), .int (nI i), .int (nI j)] (OP (ρ 11) (ρ 13) (ρ 12) p j)) ∧ Inv C J N mst bst (upP ρ f0 f1 f2) a c := by
  obtain ⟨i12, c1, c2⟩ := I_liB hI hi
  have h0 : 0 < N 1 := Nat.lt_of_le_of_lt (Nat.zero_le i) hi
  refine ⟨_, _, _, fun lw => hcQ hI hi (lk_first l D T ea mi sa _ (nI i) (nI j) (zI_H (ch_first l D T _ ad _ _ _ _ _ _ _ _ _ _ _ i hi c1 c2 (liF_at hi) (ρ 11) (ρ 12) (ρ 13) p j hp9 hj h13)) ⟨rfl, rfl⟩ (fun _ _ _ => rfl) (fun _ => Nat.le_refl _)) ⟨by decide, by decide, by decide, by decide⟩ ⟨by decide, by decide⟩ lw, I_irr hI (fun k h1 h2 h3 h4 => ?_)⟩
  unfold upP
  rw [if_neg h2, if_neg h3, if_neg h4]
end HC2
