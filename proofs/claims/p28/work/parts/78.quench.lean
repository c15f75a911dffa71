/-! ===== the quench ===== -/
section QUENCH
variable {l : Launch} {D : va_G} {T : Nat → ClassId} {ea mi : Nat} {sa : Nat → Nat}
variable {C : Nat} {ad : Nat → Nat} {J : List Nat} {N mst bst : Nat → Nat} {ρ : Nat → Nat → Int32} {f : Nat → Int64} {a c : Nat → Int32} {i : Nat}
theorem amt_s : ∀ i, i < 13 → ((nI i &&& 31).toBitVec.smod 32).toNat = i := by decide +kernel
theorem amt_u : ∀ i, i < 13 → (((nI i).toUInt32 &&& Int32.toUInt32 31).toBitVec % 32).toNat = i := by decide +kernel
theorem one_sh : ∀ i, i < 13 → (1 : Int32) <<< (nI i &&& 31) = nI (2 ^ i) := by decide +kernel
theorem sh_n {n i : Nat} (h : n < 2 ^ 31) (hi : i < 13) : nI n >>> (nI i &&& 31) = nI (n / 2 ^ i) := pk_shrN h _ i (amt_s i hi)
theorem ush_n {n i : Nat} (h : n < 2 ^ 31) (hi : i < 13) : ush (nI n) (nI i) = nI (n / 2 ^ i) := pk_ushrN (by omega) _ i (amt_u i hi)
theorem and1_01 (x : Int32) : x &&& 1 = 0 ∨ x &&& 1 = 1 := by
  have h : (x &&& 1).toBitVec = BitVec.setWidth 32 (BitVec.ofBool (x.toBitVec.getLsbD 0)) := by
    rw [Int32.toBitVec_and]
    exact BitVec.and_one_eq_setWidth_ofBool_getLsbD
  cases hb : x.toBitVec.getLsbD 0 with
  | false =>
    rw [hb] at h
    exact Or.inl (Int32.toBitVec_inj.mp h)
  | true =>
    rw [hb] at h
    exact Or.inr (Int32.toBitVec_inj.mp h)
def okQ9 (co cr : Nat → Int32) (bit : Nat → Int32) (k : Nat) : Prop := bit k = 0 ∨ (¬ co k < 800 ∧ cr k = 0)
theorem cqB_iff (co cr : Nat → Int32) (set c : Int32) : ∀ n, ¬ cqB co cr set n c = 0 ↔ ¬ c = 0 ∧ ∀ k, k < n → okQ9 co cr (fun k => (set >>> (nI k &&& 31)) &&& 1) k
  | 0 => ⟨fun h => ⟨h, fun k hk => absurd hk (Nat.not_lt_zero k)⟩, fun h => h.1⟩
  | n + 1 => by
    have ih := cqB_iff co cr set c n
    have hsp : (∀ k, k < n + 1 → okQ9 co cr (fun k => (set >>> (nI k &&& 31)) &&& 1) k) ↔ (∀ k, k < n → okQ9 co cr (fun k => (set >>> (nI k &&& 31)) &&& 1) k) ∧ okQ9 co cr (fun k => (set >>> (nI k &&& 31)) &&& 1) n :=
      ⟨fun h => ⟨fun k hk => h k (by omega), h n (by omega)⟩, fun h k hk => by
        by_cases e : k = n
        · rw [e]; exact h.2
        · exact h.1 k (by omega)⟩
    rw [hsp, ← and_assoc, ← ih, cqB]
    unfold okQ9
    by_cases h0 : cqB co cr set n c = 0
    · rw [if_pos h0]
      exact ⟨fun h => absurd rfl h, fun h => absurd h0 h.1⟩
    · rw [if_neg h0]
      by_cases h1 : (set >>> (nI n &&& 31)) &&& 1 = 0
      · rw [if_pos h1]
        exact ⟨fun _ => ⟨h0, Or.inl h1⟩, fun _ => by decide⟩
      · rw [if_neg h1]
        by_cases h2 : co n < 800
        · rw [if_pos h2]
          exact ⟨fun h => absurd rfl h, fun h => h.2.elim (fun q => absurd q h1) (fun q => absurd h2 q.1)⟩
        · rw [if_neg h2]
          by_cases h3 : cr n = 0
          · rw [if_pos h3]
            exact ⟨fun _ => ⟨h0, Or.inr ⟨h2, h3⟩⟩, fun _ => by decide⟩
          · rw [if_neg h3]
            exact ⟨fun h => absurd rfl h, fun h => h.2.elim (fun q => absurd q h1) (fun q => absurd q.2 h3)⟩
theorem cbq_iff (B : Nat → Nat → Int32) (set : Int32) : ∀ n k, ¬ cbq B set n k = 0 ↔ ∀ j, k ≤ j → j < k + n → okQ9 (fun i => B i 8) (fun i => B i 12) (fun i => ush set (nI i) &&& 1) j
  | 0, k => ⟨fun _ j h1 h2 => by omega, fun _ => by rw [cbq]; decide⟩
  | n + 1, k => by
    have ih := cbq_iff B set n (k + 1)
    have hsp : (∀ j, k ≤ j → j < k + (n + 1) → okQ9 (fun i => B i 8) (fun i => B i 12) (fun i => ush set (nI i) &&& 1) j) ↔ okQ9 (fun i => B i 8) (fun i => B i 12) (fun i => ush set (nI i) &&& 1) k ∧ ∀ j, k + 1 ≤ j → j < k + 1 + n → okQ9 (fun i => B i 8) (fun i => B i 12) (fun i => ush set (nI i) &&& 1) j :=
      ⟨fun h => ⟨h k (by omega) (by omega), fun j h1 h2 => h j (by omega) (by omega)⟩, fun h j h1 h2 => by
        by_cases e : j = k
        · rw [e]; exact h.1
        · exact h.2 j (by omega) (by omega)⟩
    rw [hsp, ← ih, cbq]
    unfold okQ9
    by_cases h1 : ush set (nI k) &&& 1 = 0
    · rw [if_pos h1]
      exact ⟨fun h => ⟨Or.inl h1, h⟩, fun h => h.2⟩
    · rw [if_neg h1]
      by_cases h2 : B k 8 < 800
      · rw [if_pos h2]
        exact ⟨fun h => absurd rfl h, fun h => h.1.elim (fun q => absurd q h1) (fun q => absurd h2 q.1)⟩
      · rw [if_neg h2]
        by_cases h3 : B k 12 = 0
        · rw [if_pos h3]
          exact ⟨fun h => ⟨Or.inr ⟨h2, h3⟩, h⟩, fun h => h.2⟩
        · rw [if_neg h3]
          exact ⟨fun h => absurd rfl h, fun h => h.1.elim (fun q => absurd q h1) (fun q => absurd q.2 h3)⟩
theorem QQ_at (f7 f8 : Nat → Int32) (b : Nat) (hd dp md : Int32) {j : Nat} (hj : j < 8) : QQ f7 f8 b hd dp md (b + j) = qval hd dp (qnum (f7 (b + j)) md) := by
  rw [QQ_eq]
  have key : ∀ n, j < n → qQ f7 f8 b hd dp md n (b + j) = qval hd dp (qnum (f7 (b + j)) md) := by
    intro n
    induction n with
    | zero => intro h; omega
    | succ n ih =>
      intro h
      rw [qQ]
      by_cases e : j = n
      · rw [e, upd_same]
      · rw [upd_ne _ _ (by omega)]
        exact ih (by omega)
  exact key 8 hj
/-- the class's rows behind the plunge of the first n -/
noncomputable def qR (set md ld : Int32) (bst : Nat → Nat) (ρ : Nat → Nat → Int32) : Nat → (Nat → Nat → Int32)
  | 0 => ρ
  | n + 1 => if ush set (nI n) &&& 1 = 0 then qR set md ld bst ρ n else fun j => if j = 100 + 3 * n then plB ld md (ρ (101 + 3 * n)) (ρ (100 + 3 * n)) else if j = 102 + 3 * n then QQ (ρ (101 + 3 * n)) (ρ (102 + 3 * n)) 0 (ρ (2 + bst n) 1) (ρ (2 + bst n) 2) md else qR set md ld bst ρ n j
theorem qR_keep {set md ld : Int32} {j : Nat} : ∀ n, (∀ i, i < n → j ≠ 100 + 3 * i ∧ j ≠ 102 + 3 * i) → qR set md ld bst ρ n j = ρ j
  | 0, _ => rfl
  | n + 1, h => by
    have ih : qR set md ld bst ρ n j = ρ j := qR_keep n (fun i hi => h i (by omega))
    rw [qR]
    split
    · exact ih
    · show (if j = 100 + 3 * n then _ else if j = 102 + 3 * n then _ else qR set md ld bst ρ n j) = ρ j
      rw [if_neg (h n (Nat.lt_succ_self n)).1, if_neg (h n (Nat.lt_succ_self n)).2]
      exact ih
theorem qG_hG {set md ld : Int32} (hb : ∀ i, i < N 1 → bst i < 4) (hn1 : N 1 ≤ 12) : ∀ n, n ≤ N 1 → ∀ j, qG ad T set md ld bst (fun i => ρ (100 + 3 * i)) (fun i => ρ (101 + 3 * i)) (fun i => ρ (102 + 3 * i)) (fun s => ρ (2 + s)) (hG ad T ea f N mst bst ρ) n j = hG ad T ea f N mst bst (qR set md ld bst ρ n) j
  | 0, _, _ => rfl
  | n + 1, hn, j => by
    have ih : qG ad T set md ld bst (fun i => ρ (100 + 3 * i)) (fun i => ρ (101 + 3 * i)) (fun i => ρ (102 + 3 * i)) (fun s => ρ (2 + s)) (hG ad T ea f N mst bst ρ) n j = hG ad T ea f N mst bst (qR set md ld bst ρ n) j := qG_hG hb hn1 n (by omega) j
    rw [qG, qR]
    by_cases c : ush set (nI n) &&& 1 = 0
    · rw [if_pos c, if_pos c]
      exact ih
    · rw [if_neg c, if_neg c]
      show (if j = 100 + 3 * n then _ else if j = 102 + 3 * n then _ else _) = _
      by_cases e1 : j = 100 + 3 * n
      · rw [if_pos e1, e1, hG_b (by omega)]
        show _ = (Sum.inr (1, biF (ad (101 + 3 * n)) (ad (102 + 3 * n)) (ad (2 + bst n)) (if 100 + 3 * n = 100 + 3 * n then plB ld md (ρ (101 + 3 * n)) (ρ (100 + 3 * n)) else _)) : va_E)
        rw [if_pos rfl]
      · rw [if_neg e1]
        by_cases e2 : j = 102 + 3 * n
        · rw [if_pos e2, e2, hG_q (by omega)]
          show _ = (Sum.inl (T 0, 8, .inl (if 102 + 3 * n = 100 + 3 * n then _ else if 102 + 3 * n = 102 + 3 * n then QQ (ρ (101 + 3 * n)) (ρ (102 + 3 * n)) 0 (ρ (2 + bst n) 1) (ρ (2 + bst n) 2) md else _)) : va_E)
          rw [if_neg (by omega), if_pos rfl]
        · rw [if_neg e2, ih]
          unfold hG
          exact congrArg (fun r => gRow ad T ea f N mst bst r j) ((if_neg e1).trans (if_neg e2)).symm
def Nq (N : Nat → Nat) : Nat → Nat := fun q => if q = 3 then N 3 + 1 else N q
theorem hG_Nq {f9 : Nat → Int64} {r9 : Nat → Nat → Int32} : hG ad T ea f9 (Nq N) mst bst r9 = hG ad T ea f9 N mst bst r9 := rfl
theorem fst_iw {K : List Nat} {G : Nat → va_E} : (iw K ad G).map Prod.fst = K.map ad := by
  unfold iw
  rw [List.map_map]
  rfl
theorem len_iw {K : List Nat} {G : Nat → va_E} : (iw K ad G).length = K.length := by
  unfold iw
  rw [List.length_map]
theorem qv_tab : ∀ h, h < 71 → ∀ d, d < 10 → ∀ q, q < 10 → (nI h - nI d * nI q < 0 → True) ∧ qval (nI h) (nI d) (nI q) = nI (h - d * q) := by decide +kernel
theorem qnum_n {al : Nat} {md : Int32} (h : al < 2 ^ 30) : ∃ q, q < 10 ∧ qnum (nI al) md = nI q := by
  unfold qnum
  have key : ∀ d : Nat, 0 < d → d < 100 → ∃ q, q < 10 ∧ imin (nI al / nI d) 9 = nI q := fun d h1 h2 => by
    rw [pk_div (by omega) h1 (by omega)]
    have hd : al / d ≤ al := Nat.div_le_self _ _
    exact ⟨min (al / d) 9, by omega, imin_n (b := 9) (by omega) (by decide)⟩
  by_cases hm : md = 0
  · rw [if_pos hm]
    exact key 10 (by decide) (by decide)
  · rw [if_neg hm]
    exact key 20 (by decide) (by decide)
theorem QQ_n {α κ : Nat → Int32} {v : Nat} {hd dp md : Int32} (hv : vS α v) (hv2 : v < 2 ^ 29) (h1 : nbd 20 70 hd) (h2 : nbd 0 9 dp) {j : Nat} (hj : j < 8) : nbd 0 70 (QQ α κ 0 hd dp md j) := by
  have q0 := QQ_at α κ 0 hd dp md hj
  rw [Nat.zero_add] at q0
  rw [q0]
  obtain ⟨al, a1, a2, a3⟩ := vS_at hv hj
  obtain ⟨q, q1, q2⟩ := qnum_n (al := al) (md := md) (by omega)
  obtain ⟨h, g1, g2, g3⟩ := h1
  obtain ⟨d, d1, d2, d3⟩ := h2
  rw [a1, q2, g3, d3, (qv_tab h (by omega) d (by omega) q q1).2]
  exact ⟨h - d * q, Nat.zero_le _, Nat.le_trans (Nat.sub_le _ _) g2, rfl⟩
/-- a billet that is plunged -/
theorem plB_B {n0 n3 : Nat} {b9 : Nat} {β α κ : Nat → Int32} {ai ci md hd dp : Int32} (h : BIc C n0 n3 mst b9 β α κ ai ci) (h1 : nbd 20 70 hd) (h2 : nbd 0 9 dp) : BIc C n0 (n3 + 1) mst b9 (plB (nI n3) md α β) α (QQ α κ 0 hd dp md) ai ci := by
  obtain ⟨hmo, ⟨A, A1, A2, A3, v, x, y, z, v1, v2, v3, v4, v5⟩, b7, b8, ⟨b9, w9⟩, b10, b11, b12, hp, hld, b17⟩ := h
  refine ⟨hmo, ⟨A, A1, A2, A3, v, x, y, z, v1, v2, v3, v4, v5⟩, ⟨20, by decide, by decide, rfl⟩, ⟨20, by decide, by decide, rfl⟩, ⟨b9, w9⟩, b10, b11, ?_, hp, Or.inr ⟨n3, Nat.lt_succ_self _, rfl, ⟨100, by decide, by decide, rfl⟩, fun j hj => QQ_n v1 (by omega) h1 h2 hj⟩, b17⟩
  show (if md = 0 then β 12 else if UE α = 0 then β 12 else 1) = 0 ∨ (if md = 0 then β 12 else if UE α = 0 then β 12 else 1) = 1
  split
  · exact b12
  · split
    · exact b12
    · exact Or.inr rfl
theorem q_bil {set md : Int32} (hI : Inv C J N mst bst ρ a c) : ∀ n, n ≤ N 1 → ∀ i, i < N 1 → BIc C (N 0) (N 3 + 1) mst (bst i) (qR set md (nI (N 3)) bst ρ n (100 + 3 * i)) (qR set md (nI (N 3)) bst ρ n (101 + 3 * i)) (qR set md (nI (N 3)) bst ρ n (102 + 3 * i)) (a i) (c i)
  | 0, _, i, hi => BIc_N (Nat.le_refl _) (fun _ _ => rfl) (Nat.le_succ _) (I_B hI hi)
  | n + 1, hn, i, hi => by
    have ih := q_bil (set := set) (md := md) hI n (by omega) i hi
    by_cases q : ush set (nI n) &&& 1 = 0
    · have eR : qR set md (nI (N 3)) bst ρ (n + 1) = qR set md (nI (N 3)) bst ρ n := by rw [qR, if_pos q]
      rw [eR]
      exact ih
    · obtain ⟨Φ, hΦ⟩ : ∃ Φ : Nat → Nat → Int32, Φ = fun j => if j = 100 + 3 * n then plB (nI (N 3)) md (ρ (101 + 3 * n)) (ρ (100 + 3 * n)) else if j = 102 + 3 * n then QQ (ρ (101 + 3 * n)) (ρ (102 + 3 * n)) 0 (ρ (2 + bst n) 1) (ρ (2 + bst n) 2) md else qR set md (nI (N 3)) bst ρ n j := ⟨_, rfl⟩
      have eR : qR set md (nI (N 3)) bst ρ (n + 1) = Φ := by rw [qR, if_neg q, hΦ]
      rw [eR]
      by_cases e : i = n
      · subst e
        have z1 : Φ (100 + 3 * i) = plB (nI (N 3)) md (ρ (101 + 3 * i)) (ρ (100 + 3 * i)) := by rw [hΦ]; exact if_pos rfl
        have z3 : Φ (102 + 3 * i) = QQ (ρ (101 + 3 * i)) (ρ (102 + 3 * i)) 0 (ρ (2 + bst i) 1) (ρ (2 + bst i) 2) md := by rw [hΦ]; exact (if_neg (by omega)).trans (if_pos rfl)
        have z2 : Φ (101 + 3 * i) = ρ (101 + 3 * i) := by rw [hΦ]; exact (if_neg (by omega)).trans ((if_neg (by omega)).trans (qR_keep i (fun k hk => by omega)))
        rw [z1, z2, z3]
        obtain ⟨-, s1, s2⟩ := hI.2.1 (bst i) (I_b4 hI hi)
        exact plB_B (I_B hI hi) s1 s2
      · have z : ∀ j, j ≠ 100 + 3 * n → j ≠ 102 + 3 * n → Φ j = qR set md (nI (N 3)) bst ρ n j := fun j p1 p2 => by rw [hΦ]; exact (if_neg p1).trans (if_neg p2)
        rw [z (100 + 3 * i) (by omega) (by omega), z (101 + 3 * i) (by omega) (by omega), z (102 + 3 * i) (by omega) (by omega)]
        exact ih
/-- what is plunged last stays as it was plunged -/
theorem qR_at {set md ld : Int32} {i : Nat} (hb : ¬ ush set (nI i) &&& 1 = 0) : ∀ n, i < n → qR set md ld bst ρ n (100 + 3 * i) = plB ld md (ρ (101 + 3 * i)) (ρ (100 + 3 * i)) ∧ qR set md ld bst ρ n (102 + 3 * i) = QQ (ρ (101 + 3 * i)) (ρ (102 + 3 * i)) 0 (ρ (2 + bst i) 1) (ρ (2 + bst i) 2) md
  | 0, h => absurd h (Nat.not_lt_zero _)
  | n + 1, h => by
    by_cases e : i = n
    · subst e
      rw [qR, if_neg hb]
      exact ⟨if_pos rfl, (if_neg (by omega)).trans (if_pos rfl)⟩
    · obtain ⟨i1, i2⟩ : qR set md ld bst ρ n (100 + 3 * i) = plB ld md (ρ (101 + 3 * i)) (ρ (100 + 3 * i)) ∧ qR set md ld bst ρ n (102 + 3 * i) = QQ (ρ (101 + 3 * i)) (ρ (102 + 3 * i)) 0 (ρ (2 + bst i) 1) (ρ (2 + bst i) 2) md := qR_at hb n (by omega)
      rw [qR]
      split
      · exact ⟨i1, i2⟩
      · exact ⟨((if_neg (by omega)).trans (if_neg (by omega))).trans i1, ((if_neg (by omega)).trans (if_neg (by omega))).trans i2⟩
theorem Inv_q {set md : Int32} (hI : Inv C J N mst bst ρ a c) (h20 : N 3 < 20) : Inv C J (Nq N) mst bst (upR (qR set md (nI (N 3)) bst ρ (N 1)) 0 (fun _ => nI (N 3 + 1))) a c := by
  have hqb := q_bil (set := set) (md := md) hI (N 1) (Nat.le_refl _)
  obtain ⟨ρ', hρ⟩ : ∃ q, q = upR (qR set md (nI (N 3)) bst ρ (N 1)) 0 (fun _ => nI (N 3 + 1)) := ⟨_, rfl⟩
  have r0 : ρ' 0 0 = nI (N 3 + 1) := by rw [hρ, upR_at]
  have rq : ∀ k, k ≠ 0 → ρ' k = qR set md (nI (N 3)) bst ρ (N 1) k := fun k hk => by rw [hρ]; exact upR_ne _ _ hk
  have hn1 := I_N1 hI
  obtain ⟨h1, h2, h3, h4, h5, h6, h7, h8⟩ := hI
  have hr : ∀ k, k ≠ 0 → k < 100 ∨ 200 ≤ k → ρ' k = ρ k := fun k hk h => by rw [rq k hk]; exact qR_keep (N 1) (fun i hi => by omega)
  rw [← hρ]
  refine ⟨⟨h1.1, fun j => ?_, h1.2.2⟩, fun s hs => ?_, h3, ⟨h20, r0⟩, fun d hd => ?_, ?_, fun i hi => ?_, h8⟩
  · rw [h1.2.1 j]
    exact Iff.rfl
  · rw [hr (2 + s) (by omega) (by omega)]
    exact h2 s hs
  · rw [hr (200 + 2 * d) (by omega) (by omega), hr (201 + 2 * d) (by omega) (by omega)]
    exact h5 d hd
  · rw [hr 14 (by omega) (by omega), hr 15 (by omega) (by omega)]
    exact h6
  · rw [rq (100 + 3 * i) (by omega), rq (101 + 3 * i) (by omega), rq (102 + 3 * i) (by omega)]
    exact hqb i hi
/-- whether a set can be quenched -/
abbrev cnQ (N : Nat → Nat) (ρ : Nat → Nat → Int32) (x : Int32) (n : Nat) : Int32 := cqB (fun k => ρ (100 + 3 * k) 8) (fun k => ρ (100 + 3 * k) 12) x n (if nI (N 3) < 20 then 1 else 0)
theorem hc_quench (hfl : l.stackTraces = false) (hI : Inv C J N mst bst ρ a c) {nx : Nat} {x y : Int32} (hnx : nx < 2 ^ 31) (hx9 : x = nI nx) (hx0 : ¬ x = 0) (hx1 : ush x (nI (N 1)) = 0) (hyo : y = 0 ∨ y = 1) :
    (cnQ N ρ x (N 1) = 0 → ∀ lw, HC l D T ea mi sa yL_quench wsL_quench lw J ad N mst bst ρ N ρ [.ref (ad 0), .int x, .int y] (-1000003)) ∧
    (¬ cnQ N ρ x (N 1) = 0 → N 3 < 20 ∧ (∀ lw, HC l D T ea mi sa yL_quench wsL_quench lw J ad N mst bst ρ (Nq N) (upR (qR x y (nI (N 3)) bst ρ (N 1)) 0 (fun _ => nI (N 3 + 1))) [.ref (ad 0), .int x, .int y] (nI (N 3))) ∧ Inv C J (Nq N) mst bst (upR (qR x y (nI (N 3)) bst ρ (N 1)) 0 (fun _ => nI (N 3 + 1))) a c) := by
  have hJ := hI.1.1
  have hmm := hI.1.2.1
  have hn1 := I_N1 hI
  obtain ⟨l1, l3⟩ := id hI.2.2.2.1
  have hb4 : ∀ i, i < N 1 → bst i < 4 := fun i hi => I_b4 hI hi
  have hpos : 0 < N 1 := Nat.pos_of_ne_zero (fun e => by
    have e2 := hx1
    rw [e, hx9, ush_n hnx (by decide)] at e2
    rw [Nat.pow_zero, Nat.div_one] at e2
    exact hx0 (hx9.trans e2))
  have c1 := (cap_le (g := N 1) (by omega)).1
  have c2 := (cap_le (g := N 1) (by omega)).2
  have hsh : ∀ i, i < 13 → ush x (nI i) = x >>> (nI i &&& 31) := fun i hi => by rw [hx9, ush_n hnx hi, sh_n hnx hi]
  obtain ⟨Jq, hJq9⟩ : ∃ q, q = J.filter (fun j => decide (j ≠ 0 ∧ j ≠ 7 ∧ j ≠ 21)) := ⟨_, rfl⟩
  have mJq : ∀ j, j ∈ Jq ↔ j ∈ J ∧ j ≠ 0 ∧ j ≠ 7 ∧ j ≠ 21 := fun j => by
    rw [hJq9, List.mem_filter, decide_eq_true_iff]
  have hJq : Jq.Nodup := by
    rw [hJq9]
    exact hJ.filter _
  have hq0 : ∀ i, i < N 1 → 100 + 3 * i ∈ Jq ∧ 101 + 3 * i ∈ Jq ∧ 102 + 3 * i ∈ Jq ∧ 2 + bst i ∈ Jq := fun i hi => by
    have hb9 := hb4 i hi
    rw [mJq, mJq, mJq, mJq, hmm, hmm, hmm, hmm]
    unfold liv
    omega
  have hnd : ([0, 7, 21] ++ Jq).Nodup := by
    refine List.nodup_append.mpr ⟨by decide, hJq, fun a ha b hb e => ?_⟩
    have hl := (mJq b).mp hb
    simp only [List.mem_cons, List.not_mem_nil, or_false] at ha
    omega
  have hlv : ∀ j ∈ [0, 7, 21] ++ Jq, liv N j := by
    intro j hj
    rcases List.mem_append.mp hj with q | q
    · simp only [List.mem_cons, List.not_mem_nil, or_false] at q
      unfold liv
      omega
    · exact (hmm j).mp ((mJq j).mp q).1
  have hcq : (¬ cbq (fun i => ρ (100 + 3 * i)) x (N 1) 0 = 0) ↔ ∀ k, k < N 1 → okQ9 (fun k => ρ (100 + 3 * k) 8) (fun k => ρ (100 + 3 * k) 12) (fun k => (x >>> (nI k &&& 31)) &&& 1) k := by
    rw [cbq_iff]
    constructor
    · intro h k hk
      have q : ush x (nI k) &&& 1 = 0 ∨ (¬ ρ (100 + 3 * k) 8 < 800 ∧ ρ (100 + 3 * k) 12 = 0) := h k (Nat.zero_le _) (by omega)
      rw [hsh k (by omega)] at q
      exact q
    · intro h k _ hk
      have q : (x >>> (nI k &&& 31)) &&& 1 = 0 ∨ (¬ ρ (100 + 3 * k) 8 < 800 ∧ ρ (100 + 3 * k) 12 = 0) := h k (by omega)
      show ush x (nI k) &&& 1 = 0 ∨ (¬ ρ (100 + 3 * k) 8 < 800 ∧ ρ (100 + 3 * k) 12 = 0)
      rw [hsh k (by omega)]
      exact q
  have hCQ := cqB_iff (fun k => ρ (100 + 3 * k) 8) (fun k => ρ (100 + 3 * k) 12) x (if nI (N 3) < 20 then 1 else 0) (N 1)
  have e1 : iw ([0, 7, 21] ++ Jq) ad (hG ad T ea nof N mst bst ρ) = (ad 0, .inr (6, hsF ad (nI (N 3)))) :: ([(ad 7, .inr (0, [.int (ρ 7 0), .ref (ad 21), .int (nI (N 1))])), (ad 21, .inl (T 3, cap (N 1), qa (liF ad (fun i => 100 + 3 * i) (N 1))))] ++ iw Jq ad (hG ad T ea nof N mst bst ρ)) := by
    show (ad 0, (Sum.inr (6, hsF ad (ρ 0 0)) : va_E)) :: (ad 7, hG ad T ea nof N mst bst ρ 7) :: (ad 21, hG ad T ea nof N mst bst ρ 21) :: iw Jq ad (hG ad T ea nof N mst bst ρ) = _
    rw [hG_7 hpos, l3]
    rfl
  have bad : ZB l yX5_quench wsX5_quench (zrmc 6 87 1 6) (zW ea mi sa) D T ((ad 0, .inr (6, hsF ad (nI (N 3)))) :: ([(ad 7, .inr (0, [.int (ρ 7 0), .ref (ad 21), .int (nI (N 1))])), (ad 21, .inl (T 3, cap (N 1), qa (liF ad (fun i => 100 + 3 * i) (N 1))))] ++ iw Jq ad (hG ad T ea nof N mst bst ρ))) [.ref (ad 0), .int x, .int y] "java/lang/IllegalStateException" → ∀ lw, HC l D T ea mi sa yL_quench wsL_quench lw J ad N mst bst ρ N ρ [.ref (ad 0), .int x, .int y] (-1000003) := fun hM lw =>
    hc_jr hI.1 hnd hlv e1 e1 (fun _ _ => rfl) (lk_quench_2 l D T ea mi sa _ x y hM ⟨rfl, rfl⟩) ⟨by decide, by decide, by decide, by decide⟩ ⟨by decide, by decide⟩ lw
  by_cases hq : cbq (fun i => ρ (100 + 3 * i)) x (N 1) 0 = 0
  · have hz : cnQ N ρ x (N 1) = 0 := Classical.byContradiction (fun z => (hcq.mpr (hCQ.mp z).2) hq)
    exact ⟨fun _ => bad (ch_quench_q l hfl D T ea mi sa (ad 0) ad (ρ 7 0) (ad 21) (cap (N 1)) (N 1) (liF ad (fun i => 100 + 3 * i) (N 1)) (nI (N 3)) x c1 c2 Jq (hG ad T ea nof N mst bst ρ) bst (fun i => ρ (100 + 3 * i)) (fun i => ρ (101 + 3 * i)) (fun i => ρ (102 + 3 * i)) (fun s => ρ (2 + s)) (fun i hi => liF_at hi) hJq hq0 hb4 (fun i hi => hG_b (by omega)) (fun i hi => hG_a (by omega)) (fun i hi => hG_q (by omega)) (fun i hi => hG_s (hb4 i hi)) y hx0 hx1 hyo hq), fun z => absurd hz z⟩
  · by_cases h20 : N 3 < 20
    · have hlt : nI (N 3) < 20 := (nI_ltI (b := 20) (by omega) (by decide)).mpr h20
      have hnz : ¬ cnQ N ρ x (N 1) = 0 := hCQ.mpr ⟨by rw [if_pos hlt]; decide, hcq.mp hq⟩
      refine ⟨fun z => absurd z hnz, fun _ => ⟨h20, fun lw => ?_, Inv_q hI h20⟩⟩
      have hM : ZIH l yX5_quench wsX5_quench (zrm 4 87) (zW ea mi sa) D T (S := Unit) ((ad 0, .inr (6, hsF ad (nI (N 3)))) :: ([(ad 7, .inr (0, [.int (ρ 7 0), .ref (ad 21), .int (nI (N 1))])), (ad 21, .inl (T 3, cap (N 1), qa (liF ad (fun i => 100 + 3 * i) (N 1))))] ++ iw Jq ad (hG ad T ea nof N mst bst ρ))) (fun _ => (ad 0, .inr (6, hsF ad (nI (N 3 + 1)))) :: ([(ad 7, .inr (0, [.int (ρ 7 0), .ref (ad 21), .int (nI (N 1))])), (ad 21, .inl (T 3, cap (N 1), qa (liF ad (fun i => 100 + 3 * i) (N 1))))] ++ iw Jq ad (qG ad T x y (nI (N 3)) bst (fun i => ρ (100 + 3 * i)) (fun i => ρ (101 + 3 * i)) (fun i => ρ (102 + 3 * i)) (fun s => ρ (2 + s)) (hG ad T ea nof N mst bst ρ) (N 1)))) [.ref (ad 0), .int x, .int y] (nI (N 3)) 0 0 := by
        rcases hyo with rfl | rfl
        · exact ch_quench_0 l D T ea mi sa (ad 0) ad (ρ 7 0) (ad 21) (cap (N 1)) (N 1) (liF ad (fun i => 100 + 3 * i) (N 1)) (N 3) h20 x c1 c2 Jq (hG ad T ea nof N mst bst ρ) bst (fun i => ρ (100 + 3 * i)) (fun i => ρ (101 + 3 * i)) (fun i => ρ (102 + 3 * i)) (fun s => ρ (2 + s)) (fun i hi => liF_at hi) hJq hq0 hb4 (fun i hi => hG_b (by omega)) (fun i hi => hG_a (by omega)) (fun i hi => hG_q (by omega)) (fun i hi => hG_s (hb4 i hi)) hx0 hx1 hq
        · exact ch_quench_1 l D T ea mi sa (ad 0) ad (ρ 7 0) (ad 21) (cap (N 1)) (N 1) (liF ad (fun i => 100 + 3 * i) (N 1)) (N 3) h20 x c1 c2 Jq (hG ad T ea nof N mst bst ρ) bst (fun i => ρ (100 + 3 * i)) (fun i => ρ (101 + 3 * i)) (fun i => ρ (102 + 3 * i)) (fun s => ρ (2 + s)) (fun i hi => liF_at hi) hJq hq0 hb4 (fun i hi => hG_b (by omega)) (fun i hi => hG_a (by omega)) (fun i hi => hG_q (by omega)) (fun i hi => hG_s (hb4 i hi)) hx0 hx1 hq
      have hw := lk_quench l D T ea mi sa _ x y hM ⟨rfl, rfl⟩ (fun _ j _ => by
        show (ad 0 :: ad 7 :: ad 21 :: (iw Jq ad _).map Prod.fst)[j]? = (ad 0 :: ad 7 :: ad 21 :: (iw Jq ad _).map Prod.fst)[j]?
        rw [fst_iw, fst_iw]) (fun _ => by
        show (iw Jq ad _).length + 3 ≤ (iw Jq ad _).length + 3
        rw [len_iw, len_iw]
        exact Nat.le_refl _)
      obtain ⟨ρ', hρ⟩ : ∃ q, q = upR (qR x y (nI (N 3)) bst ρ (N 1)) 0 (fun _ => nI (N 3 + 1)) := ⟨_, rfl⟩
      rw [← hρ]
      have r0 : ρ' 0 = fun _ => nI (N 3 + 1) := by rw [hρ]; exact upR_at _ _ _
      have rq : ∀ k, k ≠ 0 → ρ' k = qR x y (nI (N 3)) bst ρ (N 1) k := fun k hk => by rw [hρ]; exact upR_ne _ _ hk
      have r7 : ρ' 7 = ρ 7 := by rw [rq 7 (by decide)]; exact qR_keep (N 1) (fun i hi => by omega)
      have e2 : iw ([0, 7, 21] ++ Jq) ad (hG ad T ea nof N mst bst ρ') = (ad 0, .inr (6, hsF ad (nI (N 3 + 1)))) :: ([(ad 7, .inr (0, [.int (ρ 7 0), .ref (ad 21), .int (nI (N 1))])), (ad 21, .inl (T 3, cap (N 1), qa (liF ad (fun i => 100 + 3 * i) (N 1))))] ++ iw Jq ad (qG ad T x y (nI (N 3)) bst (fun i => ρ (100 + 3 * i)) (fun i => ρ (101 + 3 * i)) (fun i => ρ (102 + 3 * i)) (fun s => ρ (2 + s)) (hG ad T ea nof N mst bst ρ) (N 1))) := by
        have e5 : iw Jq ad (hG ad T ea nof N mst bst ρ') = iw Jq ad (qG ad T x y (nI (N 3)) bst (fun i => ρ (100 + 3 * i)) (fun i => ρ (101 + 3 * i)) (fun i => ρ (102 + 3 * i)) (fun s => ρ (2 + s)) (hG ad T ea nof N mst bst ρ) (N 1)) := by
          unfold iw
          refine List.map_congr_left (fun k hk => ?_)
          have hk9 := (mJq k).mp hk
          have hl := (hmm k).mp hk9.1
          rw [qG_hG hb4 hn1 (N 1) (Nat.le_refl _) k, hG_row (rq k hk9.2.1) (fun e => liv_16 (e ▸ hl))]
        show (ad 0, (Sum.inr (6, hsF ad (ρ' 0 0)) : va_E)) :: (ad 7, hG ad T ea nof N mst bst ρ' 7) :: (ad 21, hG ad T ea nof N mst bst ρ' 21) :: iw Jq ad (hG ad T ea nof N mst bst ρ') = _
        rw [e5, hG_7 hpos, r0, r7]
        rfl
      refine hc_js (N' := Nq N) hI.1 hnd hlv e1 e2 (fun j hj hn => ?_) hw ⟨by decide, by decide, by decide, by decide⟩ ⟨by decide, by decide⟩ lw
      rw [hG_Nq]
      have hnj : j ≠ 0 ∧ ∀ i, i < N 1 → j ≠ 100 + 3 * i ∧ j ≠ 102 + 3 * i := ⟨fun e => hn (by rw [e]; simp), fun i hi => ⟨fun e => hn (List.mem_append_right _ (e ▸ (hq0 i hi).1)), fun e => hn (List.mem_append_right _ (e ▸ (hq0 i hi).2.2.1))⟩⟩
      exact hG_row ((rq j hnj.1).trans (qR_keep (N 1) hnj.2)) (fun e => liv_16 ((hmm 16).mp (by rw [← e]; exact hj)))
    · have hlt : ¬ nI (N 3) < 20 := fun q => h20 ((nI_ltI (b := 20) (by omega) (by decide)).mp q)
      have hz : cnQ N ρ x (N 1) = 0 := Classical.byContradiction (fun z => (hCQ.mp z).1 (if_neg hlt))
      exact ⟨fun _ => bad (ch_quench_w l hfl D T ea mi sa (ad 0) ad (ρ 7 0) (ad 21) (cap (N 1)) (N 1) (liF ad (fun i => 100 + 3 * i) (N 1)) (nI (N 3)) x c1 c2 Jq (hG ad T ea nof N mst bst ρ) bst (fun i => ρ (100 + 3 * i)) (fun i => ρ (101 + 3 * i)) (fun i => ρ (102 + 3 * i)) (fun s => ρ (2 + s)) (fun i hi => liF_at hi) hJq hq0 hb4 (fun i hi => hG_b (by omega)) (fun i hi => hG_a (by omega)) (fun i hi => hG_q (by omega)) (fun i hi => hG_s (hb4 i hi)) y hx0 hx1 hyo hq hlt), fun z => absurd hz z⟩
/-- a billet of the set is hard by the new load -/
theorem q_QN {x y : Int32} (hI : Inv C J N mst bst ρ a c) (hi : i < N 1) (hb : ¬ ush x (nI i) &&& 1 = 0) : ∃ kk, QN (upR (qR x y (nI (N 3)) bst ρ (N 1)) 0 (fun _ => nI (N 3 + 1)) (100 + 3 * i)) (upR (qR x y (nI (N 3)) bst ρ (N 1)) 0 (fun _ => nI (N 3 + 1)) (102 + 3 * i)) (N 3) kk 100 ∧ upR (qR x y (nI (N 3)) bst ρ (N 1)) 0 (fun _ => nI (N 3 + 1)) (100 + 3 * i) 7 = 20 ∧ upR (qR x y (nI (N 3)) bst ρ (N 1)) 0 (fun _ => nI (N 3 + 1)) (100 + 3 * i) 8 = 20 ∧ upR (qR x y (nI (N 3)) bst ρ (N 1)) 0 (fun _ => nI (N 3 + 1)) (100 + 3 * i) 14 = nI (N 3) := by
  obtain ⟨q1, q2⟩ := qR_at (set := x) (md := y) (ld := nI (N 3)) (bst := bst) (ρ := ρ) hb (N 1) hi
  rw [upR_ne _ _ (show 100 + 3 * i ≠ 0 by omega), upR_ne _ _ (show 102 + 3 * i ≠ 0 by omega), q1, q2]
  obtain ⟨-, ⟨A, A1, A2, A3, v, x9, y9, z9, v1, -, -, -, v5⟩, -⟩ := I_B hI hi
  obtain ⟨-, s1, s2⟩ := hI.2.1 (bst i) (I_b4 hI hi)
  refine ⟨fun j => (QQ (ρ (101 + 3 * i)) (ρ (102 + 3 * i)) 0 (ρ (2 + bst i) 1) (ρ (2 + bst i) 2) y j).toNatClampNeg, ⟨rfl, rfl, ⟨by decide, by decide⟩, fun j hj => ?_⟩, rfl, rfl, rfl⟩
  obtain ⟨k, -, k2, k3⟩ := QQ_n (κ := ρ (102 + 3 * i)) (md := y) v1 (by omega) s1 s2 hj
  have e : (QQ (ρ (101 + 3 * i)) (ρ (102 + 3 * i)) 0 (ρ (2 + bst i) 1) (ρ (2 + bst i) 2) y j).toNatClampNeg = k := by rw [k3, nI_clamp (by omega)]
  show QQ (ρ (101 + 3 * i)) (ρ (102 + 3 * i)) 0 (ρ (2 + bst i) 1) (ρ (2 + bst i) 2) y j = nI (QQ (ρ (101 + 3 * i)) (ρ (102 + 3 * i)) 0 (ρ (2 + bst i) 1) (ρ (2 + bst i) 2) y j).toNatClampNeg ∧ (QQ (ρ (101 + 3 * i)) (ρ (102 + 3 * i)) 0 (ρ (2 + bst i) 1) (ρ (2 + bst i) 2) y j).toNatClampNeg ≤ 70
  rw [e]
  exact ⟨k3, k2⟩
end QUENCH
