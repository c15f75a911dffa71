/-! ===== the quench: sets as bits, sections ===== -/
theorem amt_s : ∀ i, i < 13 → ((nI i &&& 31).toBitVec.smod 32).toNat = i := by decide +kernel
theorem amt_u : ∀ i, i < 13 → (((nI i).toUInt32 &&& Int32.toUInt32 31).toBitVec % 32).toNat = i := by decide +kernel
theorem one_sh : ∀ i, i < 13 → (1 : Int32) <<< (nI i &&& 31) = nI (2 ^ i) := by decide +kernel
theorem sh_n {n i : Nat} (h : n < 2 ^ 31) (hi : i < 13) : nI n >>> (nI i &&& 31) = nI (n / 2 ^ i) := pk_shrN h _ i (amt_s i hi)
theorem ush_n {n i : Nat} (h : n < 2 ^ 31) (hi : i < 13) : ush (nI n) (nI i) = nI (n / 2 ^ i) := pk_ushrN (by omega) _ i (amt_u i hi)
theorem and1_01 (x : Int32) : x &&& 1 = 0 ∨ x &&& 1 = 1 := by
  have h : (x &&& 1).toBitVec = BitVec.setWidth 32 (BitVec.ofBool (x.toBitVec.getLsbD 0)) := by
    rw [Int32.toBitVec_and]
    exact BitVec.and_one_eq_setWidth_ofBool_getLsbD
  cases hb : x.toBitVec.getLsbD 0 with
  | false =>
    rw [hb] at h
    exact Or.inl (Int32.toBitVec_inj.mp h)
  | true =>
    rw [hb] at h
    exact Or.inr (Int32.toBitVec_inj.mp h)
theorem ush_neg {set : Int32} (h : set < 0) {i : Nat} (hi : i < 13) : ¬ ush set (nI i) = 0 := by
  intro e
  have a := pk_ushr set (nI i) i (amt_u i hi)
  have e2 : (ush set (nI i)).toBitVec.toNat = set.toBitVec.toNat / 2 ^ i := a
  rw [e] at e2
  have h1 : set.toInt < 0 := by
    have := Int32.lt_iff_toInt_lt.mp h
    simpa using this
  have h2 : set.toInt = set.toBitVec.toInt := rfl
  rw [h2, BitVec.toInt_eq_toNat_cond] at h1
  have h3 : set.toBitVec.toNat < 2 ^ 32 := set.toBitVec.isLt
  have h4 : 2 ^ 31 ≤ set.toBitVec.toNat := by
    split at h1
    · omega
    · omega
  have h5 : (2 : Nat) ^ i ≤ 2 ^ 12 := Nat.pow_le_pow_right (by decide) (by omega)
  have h6 : 1 ≤ set.toBitVec.toNat / 2 ^ i := (Nat.le_div_iff_mul_le (Nat.pow_pos (by decide))).mpr (by omega)
  have h7 : (0 : Int32).toBitVec.toNat = 0 := by decide
  omega
theorem set_ok {set : Int32} {g : Nat} (hg : g ≤ 12) : (¬ set = 0 ∧ ush set (nI g) = 0) ↔ (0 < set ∧ set < (1 : Int32) <<< (nI g &&& 31)) := by
  rw [one_sh g (by omega)]
  have hp : (2 : Nat) ^ g ≤ 2 ^ 12 := Nat.pow_le_pow_right (by decide) hg
  by_cases h : set < 0
  · refine ⟨fun q => absurd q.2 (ush_neg h (by omega)), fun q => ?_⟩
    exact absurd (Int32.lt_trans h q.1) Int32.lt_irrefl
  · obtain ⟨n, hn, rfl⟩ := zI_of h
    rw [ush_n hn (by omega)]
    have hd : n / 2 ^ g ≤ n := Nat.div_le_self _ _
    have e1 : nI (n / 2 ^ g) = 0 ↔ n < 2 ^ g := by
      constructor
      · intro q
        have q2 := (nI_eq (a := n / 2 ^ g) (b := 0) (by omega) (by decide)).mp (q.trans nI_0.symm)
        exact (Nat.div_eq_zero_iff_lt (Nat.pow_pos (by decide))).mp q2
      · intro q
        rw [Nat.div_eq_of_lt q]
        exact nI_0
    have e2 : nI n < nI (2 ^ g) ↔ n < 2 ^ g := nI_ltI hn (by omega)
    have e3 : (0 : Int32) < nI n ↔ ¬ nI n = 0 := by
      constructor
      · intro q e
        rw [e] at q
        exact absurd q Int32.lt_irrefl
      · intro q
        exact Classical.byContradiction (fun z => q (i32_tri h z))
    rw [e1, e2, e3]
def okQ9 (co cr : Nat → Int32) (bit : Nat → Int32) (k : Nat) : Prop := bit k = 0 ∨ (¬ co k < 800 ∧ cr k = 0)
theorem cqB_iff (co cr : Nat → Int32) (set c : Int32) : ∀ n, ¬ cqB co cr set n c = 0 ↔ ¬ c = 0 ∧ ∀ k, k < n → okQ9 co cr (fun k => (set >>> (nI k &&& 31)) &&& 1) k
  | 0 => ⟨fun h => ⟨h, fun k hk => absurd hk (Nat.not_lt_zero k)⟩, fun h => h.1⟩
  | n + 1 => by
    have ih := cqB_iff co cr set c n
    have hsp : (∀ k, k < n + 1 → okQ9 co cr (fun k => (set >>> (nI k &&& 31)) &&& 1) k) ↔ (∀ k, k < n → okQ9 co cr (fun k => (set >>> (nI k &&& 31)) &&& 1) k) ∧ okQ9 co cr (fun k => (set >>> (nI k &&& 31)) &&& 1) n :=
      ⟨fun h => ⟨fun k hk => h k (by omega), h n (by omega)⟩, fun h k hk => by
        by_cases e : k = n
        · rw [e]; exact h.2
        · exact h.1 k (by omega)⟩
    rw [hsp, ← and_assoc, ← ih, cqB]
    unfold okQ9
    by_cases h0 : cqB co cr set n c = 0
    · rw [if_pos h0]
      exact ⟨fun h => absurd rfl h, fun h => absurd h0 h.1⟩
    · rw [if_neg h0]
      by_cases h1 : (set >>> (nI n &&& 31)) &&& 1 = 0
      · rw [if_pos h1]
        exact ⟨fun _ => ⟨h0, Or.inl h1⟩, fun _ => by decide⟩
      · rw [if_neg h1]
        by_cases h2 : co n < 800
        · rw [if_pos h2]
          exact ⟨fun h => absurd rfl h, fun h => h.2.elim (fun q => absurd q h1) (fun q => absurd h2 q.1)⟩
        · rw [if_neg h2]
          by_cases h3 : cr n = 0
          · rw [if_pos h3]
            exact ⟨fun _ => ⟨h0, Or.inr ⟨h2, h3⟩⟩, fun _ => by decide⟩
          · rw [if_neg h3]
            exact ⟨fun h => absurd rfl h, fun h => h.2.elim (fun q => absurd q h1) (fun q => absurd q.2 h3)⟩
theorem cbq_iff (B : Nat → Nat → Int32) (set : Int32) : ∀ n k, ¬ cbq B set n k = 0 ↔ ∀ j, k ≤ j → j < k + n → okQ9 (fun i => B i 8) (fun i => B i 12) (fun i => ush set (nI i) &&& 1) j
  | 0, k => ⟨fun _ j h1 h2 => by omega, fun _ => by rw [cbq]; decide⟩
  | n + 1, k => by
    have ih := cbq_iff B set n (k + 1)
    have hsp : (∀ j, k ≤ j → j < k + (n + 1) → okQ9 (fun i => B i 8) (fun i => B i 12) (fun i => ush set (nI i) &&& 1) j) ↔ okQ9 (fun i => B i 8) (fun i => B i 12) (fun i => ush set (nI i) &&& 1) k ∧ ∀ j, k + 1 ≤ j → j < k + 1 + n → okQ9 (fun i => B i 8) (fun i => B i 12) (fun i => ush set (nI i) &&& 1) j :=
      ⟨fun h => ⟨h k (by omega) (by omega), fun j h1 h2 => h j (by omega) (by omega)⟩, fun h j h1 h2 => by
        by_cases e : j = k
        · rw [e]; exact h.1
        · exact h.2 j (by omega) (by omega)⟩
    rw [hsp, ← ih, cbq]
    unfold okQ9
    by_cases h1 : ush set (nI k) &&& 1 = 0
    · rw [if_pos h1]
      exact ⟨fun h => ⟨Or.inl h1, h⟩, fun h => h.2⟩
    · rw [if_neg h1]
      by_cases h2 : B k 8 < 800
      · rw [if_pos h2]
        exact ⟨fun h => absurd rfl h, fun h => h.1.elim (fun q => absurd q h1) (fun q => absurd h2 q.1)⟩
      · rw [if_neg h2]
        by_cases h3 : B k 12 = 0
        · rw [if_pos h3]
          exact ⟨fun h => ⟨Or.inr ⟨h2, h3⟩, h⟩, fun h => h.2⟩
        · rw [if_neg h3]
          exact ⟨fun h => absurd rfl h, fun h => h.1.elim (fun q => absurd q h1) (fun q => absurd q.2 h3)⟩
theorem QQ_at (f7 f8 : Nat → Int32) (b : Nat) (hd dp md : Int32) {j : Nat} (hj : j < 8) : QQ f7 f8 b hd dp md (b + j) = qval hd dp (qnum (f7 (b + j)) md) := by
  rw [QQ_eq]
  have key : ∀ n, j < n → qQ f7 f8 b hd dp md n (b + j) = qval hd dp (qnum (f7 (b + j)) md) := by
    intro n
    induction n with
    | zero => intro h; omega
    | succ n ih =>
      intro h
      rw [qQ]
      by_cases e : j = n
      · rw [e, upd_same]
      · rw [upd_ne _ _ (by omega)]
        exact ih (by omega)
  exact key 8 hj
theorem QQ_o (f7 f8 : Nat → Int32) (b : Nat) (hd dp md : Int32) {k : Nat} (h : k < b ∨ b + 8 ≤ k) : QQ f7 f8 b hd dp md k = f8 k := by
  rw [QQ_eq]
  have key : ∀ n, n ≤ 8 → qQ f7 f8 b hd dp md n k = f8 k := by
    intro n
    induction n with
    | zero => intro _; rfl
    | succ n ih =>
      intro hn
      rw [qQ, upd_ne _ _ (by omega)]
      exact ih (by omega)
  exact key 8 (Nat.le_refl 8)
def un9 (f : Nat → Int32) (b k : Nat) : Prop := 3 * f (b + nbr k) < f (b + k) ∨ 3 * f (b + k) < f (b + nbr k)
theorem qC_0 (f7 : Nat → Int32) (b : Nat) {c : Int32} (hc : c = 0 ∨ c = 1) : ∀ n, qC f7 b 0 c n = c
  | 0 => rfl
  | n + 1 => by
    rw [qC, qC_0 f7 b hc n]
    rcases hc with rfl | rfl <;> rfl
theorem qC_1 (f7 : Nat → Int32) (b : Nat) {c : Int32} (hc : c = 0 ∨ c = 1) : ∀ n, (qC f7 b 1 c n = 0 ∨ qC f7 b 1 c n = 1) ∧ (qC f7 b 1 c n = 1 ↔ c = 1 ∨ ∃ k, k < n ∧ un9 f7 b k)
  | 0 => ⟨hc, fun h => Or.inl h, fun h => h.elim id (fun ⟨k, hk, _⟩ => absurd hk (Nat.not_lt_zero k))⟩
  | n + 1 => by
    obtain ⟨i1, i2⟩ := qC_1 f7 b hc n
    have hsp : (∃ k, k < n + 1 ∧ un9 f7 b k) ↔ (∃ k, k < n ∧ un9 f7 b k) ∨ un9 f7 b n := ⟨fun ⟨k, h1, h2⟩ => by
        by_cases e : k = n
        · subst e; exact Or.inr h2
        · exact Or.inl ⟨k, by omega, h2⟩, fun h => h.elim (fun ⟨k, h1, h2⟩ => ⟨k, by omega, h2⟩) (fun h => ⟨n, by omega, h⟩)⟩
    rw [qC, hsp, ← or_assoc, ← i2]
    rcases i1 with h0 | h0
    · rw [if_pos h0, if_pos rfl, h0]
      unfold un9
      by_cases a : 3 * f7 (b + nbr n) < f7 (b + n)
      · rw [if_pos a]
        exact ⟨Or.inr rfl, fun _ => Or.inr (Or.inl a), fun _ => rfl⟩
      · rw [if_neg a]
        by_cases a2 : 3 * f7 (b + n) < f7 (b + nbr n)
        · rw [if_pos a2]
          exact ⟨Or.inr rfl, fun _ => Or.inr (Or.inr a2), fun _ => rfl⟩
        · rw [if_neg a2]
          exact ⟨Or.inl rfl, fun h => absurd h (by decide), fun h => h.elim (fun q => absurd q (by decide)) (fun q => q.elim (fun z => absurd z a) (fun z => absurd z a2))⟩
    · rw [if_neg (by rw [h0]; decide), h0]
      exact ⟨Or.inr rfl, fun _ => Or.inl rfl, fun _ => rfl⟩
theorem une_iff (f : Nat → Int32) : ∀ n, n ≤ 8 → (une f n = 0 ↔ ∀ k, 8 - n ≤ k → k < 8 → ¬ un9 f 0 k)
  | 0, _ => ⟨fun _ k h1 h2 => by omega, fun _ => rfl⟩
  | n + 1, hn => by
    have ih := une_iff f n (by omega)
    have hsp : (∀ k, 8 - (n + 1) ≤ k → k < 8 → ¬ un9 f 0 k) ↔ ¬ un9 f 0 (7 - n) ∧ ∀ k, 8 - n ≤ k → k < 8 → ¬ un9 f 0 k := ⟨fun h => ⟨h (7 - n) (by omega) (by omega), fun k h1 h2 => h k (by omega) h2⟩, fun h k h1 h2 => by
        by_cases e : k = 7 - n
        · rw [e]; exact h.1
        · exact h.2 k (by omega) h2⟩
    rw [hsp, ← ih, une]
    unfold un9
    rw [Nat.zero_add, Nat.zero_add]
    by_cases a : 3 * f (nbr (7 - n)) < f (7 - n)
    · rw [if_pos a]
      exact ⟨fun h => absurd h (by decide), fun h => absurd (Or.inl a) h.1⟩
    · rw [if_neg a]
      by_cases a2 : 3 * f (7 - n) < f (nbr (7 - n))
      · rw [if_pos a2]
        exact ⟨fun h => absurd h (by decide), fun h => absurd (Or.inr a2) h.1⟩
      · rw [if_neg a2]
        exact ⟨fun h => ⟨fun q => q.elim a a2, h⟩, fun h => h.2⟩
/-- cracks of a plunge, on both sides -/
theorem QC_UE {α g : Nat → Int32} {b : Nat} (h : ∀ j, j < 8 → α j = g (b + j)) {md c : Int32} (hc : c = 0 ∨ c = 1) (hmd : md = 0 ∨ md = 1) : (if md = 0 then c else if UE α = 0 then c else 1) = QC g b md c ∧ ((if md = 0 then c else if UE α = 0 then c else 1) = 0 ∨ (if md = 0 then c else if UE α = 0 then c else 1) = 1) := by
  rw [QC_eq]
  rcases hmd with rfl | rfl
  · rw [if_pos rfl, qC_0 g b hc 8]
    exact ⟨rfl, hc⟩
  · rw [if_neg (by decide)]
    obtain ⟨i1, i2⟩ := qC_1 g b hc 8
    have hu := une_iff α 8 (Nat.le_refl 8)
    rw [← UE_eq] at hu
    have hun : ∀ k, k < 8 → (un9 α 0 k ↔ un9 g b k) := fun k hk => by
      unfold un9
      rw [Nat.zero_add, Nat.zero_add, h k hk, h (nbr k) (nbr_lt hk)]
    by_cases e : UE α = 0
    · rw [if_pos e]
      have hn := hu.mp e
      refine ⟨?_, hc⟩
      rcases hc with rfl | rfl
      · rcases i1 with q | q
        · exact q.symm
        · exact (i2.mp q).elim (fun z => absurd z (by decide)) (fun ⟨k, h1, h2⟩ => absurd ((hun k h1).mpr h2) (hn k (by omega) h1))
      · exact (i2.mpr (Or.inl rfl)).symm
    · rw [if_neg e]
      refine ⟨(i2.mpr (Or.inr ?_)).symm, Or.inr rfl⟩
      exact Classical.byContradiction (fun z => e (hu.mpr (fun k _ h2 q => z ⟨k, h2, (hun k h2).mp q⟩)))
