/-! ===== the search finds the least number of acts ===== -/
def dN (S : bT) (y : Nat) : Nat := (S.1 y).toNatClampNeg
def qN (S : bT) (j : Nat) : Nat := (S.2.1 j).toNatClampNeg
def bI (q k b : Nat) (S : bT) : Prop := bW S ∧ (∀ y, y < 256 → ¬ S.1 y = -1 → Dq q (dN S y) y ∧ ∃ j, j < S.2.2 ∧ S.2.1 j = nI y) ∧ S.1 q = 0 ∧ (∀ i j, i ≤ j → j < S.2.2 → dN S (qN S i) ≤ dN S (qN S j)) ∧ (∀ j, j < S.2.2 → dN S (qN S j) ≤ dN S (qN S k) + 1) ∧ ∀ i a, a < 3 → i < S.2.2 → (i < k ∨ (i = k ∧ a < b)) → ¬ S.1 (actN (qN S i) a) = -1 ∧ dN S (actN (qN S i) a) ≤ dN S (qN S i) + 1
theorem bI_1 {q k b x : Nat} {S : bT} (h : bI q k b S) (hk : k < S.2.2) (hx : x < 256) (hQ : S.2.1 k = nI x) (hb : b < 3) : bI q k (b + 1) (bf1 S x b) := by
  obtain ⟨hW, h2, h3, h4, h5, h6⟩ := h
  have hW1 := (bW_1 hW hk hx hQ hb).1
  have hz := (actN_ok x hx b hb).2
  have qk : qN S k = x := by
    unfold qN
    rw [hQ, nI_clamp (by omega)]
  have hx9 : ¬ S.1 x = -1 := by
    obtain ⟨y, hy, ey, hf⟩ := hW.1 k hk
    have := (nI_eq (by omega) (by omega)).mp (hQ.symm.trans ey)
    rw [this]
    exact hf
  by_cases c : S.1 (actN x b) = -1
  · have eS : bf1 S x b = (upd S.1 (actN x b) (S.1 x + 1), upd S.2.1 S.2.2 (nI (actN x b)), S.2.2 + 1) := if_pos c
    obtain ⟨d, hd, ed⟩ := (hW.2.2 x hx).resolve_left hx9
    have hle := bW_le hW
    obtain ⟨S', hS'⟩ : ∃ S' : bT, S' = bf1 S x b := ⟨_, rfl⟩
    rw [← hS'] at hW1 ⊢
    rw [eS] at hS'
    have c1 : ∀ y, y ≠ actN x b → S'.1 y = S.1 y := fun y hy => by rw [hS']; exact upd_ne _ _ hy
    have c2 : S'.1 (actN x b) = S.1 x + 1 := by rw [hS']; exact upd_same _ _ _
    have c3 : ∀ j, j < S.2.2 → S'.2.1 j = S.2.1 j := fun j hj => by rw [hS']; exact upd_ne _ _ (by omega)
    have c4 : S'.2.1 S.2.2 = nI (actN x b) := by rw [hS']; exact upd_same _ _ _
    have c5 : S'.2.2 = S.2.2 + 1 := by rw [hS']
    have dx : dN S x = d := by
      unfold dN
      rw [ed, nI_clamp (by omega)]
    have dz : dN S' (actN x b) = d + 1 := by
      unfold dN
      rw [c2, ed, nI_1, nI_clamp (by omega)]
    have qj : ∀ j, j < S.2.2 → qN S' j = qN S j ∧ qN S j ≠ actN x b ∧ qN S j < 256 ∧ dN S' (qN S j) = dN S (qN S j) := fun j hj => by
      have a1 : qN S' j = qN S j := by
        unfold qN
        rw [c3 j hj]
      obtain ⟨y, hy, ey, hf⟩ := hW.1 j hj
      have a3 : qN S j = y := by
        unfold qN
        rw [ey, nI_clamp (by omega)]
      have a2 : qN S j ≠ actN x b := fun e => by
        rw [a3] at e
        rw [e] at hf
        exact hf c
      refine ⟨a1, a2, by rw [a3]; exact hy, ?_⟩
      unfold dN
      rw [c1 _ a2]
    have qc : qN S' S.2.2 = actN x b := by
      unfold qN
      rw [c4, nI_clamp (by omega)]
    have zq : ¬ q = actN x b := fun e => by
      rw [← e, h3] at c
      exact absurd c (by decide)
    refine ⟨hW1, fun y hy hf => ?_, ?_, fun i j hij hj => ?_, fun j hj => ?_, fun i a ha hi hor => ?_⟩
    · by_cases e : y = actN x b
      · rw [e, dz]
        have := (h2 x hx hx9).1
        rw [dx] at this
        exact ⟨⟨x, b, hx, hb, this, rfl⟩, S.2.2, by omega, c4⟩
      · rw [c1 y e] at hf
        obtain ⟨g1, j, g2, g3⟩ := h2 y hy hf
        refine ⟨?_, j, by omega, by rw [c3 j g2]; exact g3⟩
        unfold dN at g1 ⊢
        rw [c1 y e]
        exact g1
    · rw [c1 q zq]
      exact h3
    · rw [c5] at hj
      by_cases e : j = S.2.2
      · rw [e, qc, dz]
        by_cases e2 : i = S.2.2
        · rw [e2, qc, dz]
          exact Nat.le_refl _
        · obtain ⟨a1, a2, a3, a4⟩ := qj i (by omega)
          rw [a1, a4]
          have := h5 i (by omega)
          rw [qk, dx] at this
          exact this
      · obtain ⟨a1, a2, a3, a4⟩ := qj j (by omega)
        obtain ⟨b1, b2, b3, b4⟩ := qj i (by omega)
        rw [a1, a4, b1, b4]
        exact h4 i j hij (by omega)
    · rw [c5] at hj
      obtain ⟨b1, b2, b3, b4⟩ := qj k hk
      rw [b1, b4]
      by_cases e : j = S.2.2
      · rw [e, qc, dz, qk, dx]
        exact Nat.le_refl _
      · obtain ⟨a1, a2, a3, a4⟩ := qj j (by omega)
        rw [a1, a4]
        exact h5 j (by omega)
    · rw [c5] at hi
      have hi9 : i < S.2.2 := by omega
      obtain ⟨a1, a2, a3, a4⟩ := qj i hi9
      rw [a1, a4]
      by_cases e : actN (qN S i) a = actN x b
      · rw [e, dz, c2, ed, nI_1]
        refine ⟨nI_nm1 (by omega), ?_⟩
        by_cases e3 : i = k
        · rw [e3, qk, dx]
          exact Nat.le_refl _
        · have hlt : i < k ∨ (i = k ∧ a < b) := by omega
          exact absurd (e ▸ c) (h6 i a ha hi9 hlt).1
      · rw [c1 _ e]
        have hlt : i < k ∨ (i = k ∧ a < b) := by
          rcases hor with q1 | ⟨q1, q2⟩
          · exact Or.inl q1
          · refine Or.inr ⟨q1, ?_⟩
            by_cases e4 : a = b
            · exfalso
              apply e
              rw [q1, qk, e4]
            · omega
        have := h6 i a ha hi9 hlt
        refine ⟨this.1, ?_⟩
        have g := this.2
        unfold dN at g ⊢
        rw [c1 _ e]
        exact g
  · have eS : bf1 S x b = S := if_neg c
    rw [eS]
    refine ⟨hW, h2, h3, h4, h5, fun i a ha hi hor => ?_⟩
    by_cases e : i = k ∧ a = b
    · obtain ⟨e1, e2⟩ := e
      rw [e1, e2, qk]
      refine ⟨c, ?_⟩
      obtain ⟨-, j, hj, ej⟩ := h2 _ hz c
      have q1 : qN S j = actN x b := by
        unfold qN
        rw [ej, nI_clamp (by omega)]
      have := h5 j hj
      rw [q1, qk] at this
      exact this
    · exact h6 i a ha hi (by omega)
theorem bI_A {q k x : Nat} {S : bT} (h : bI q k 0 S) (hk : k < S.2.2) (hx : x < 256) (hQ : S.2.1 k = nI x) : ∀ b, b ≤ 3 → bI q k b (bfA S x b)
  | 0, _ => h
  | b + 1, hb => by
    obtain ⟨w1, w2, w3⟩ := bW_A h.1 hk hx hQ b (by omega)
    rw [bfA]
    exact bI_1 (bI_A h hk hx hQ b (by omega)) (by omega) hx w2 (by omega)
theorem bI_R {q : Nat} : ∀ n k (S : bT), k ≤ S.2.2 → 257 ≤ n + k → (k < S.2.2 → bI q k 0 S) → (k = S.2.2 → 0 < k ∧ bI q (k - 1) 3 S) → ∃ k', 0 < k' ∧ k' = (bfR n k S).2.2 ∧ bI q (k' - 1) 3 (bfR n k S)
  | 0, k, S, hk, hn, h1, h2 => by
    by_cases c : k < S.2.2
    · have := bW_le (h1 c).1
      omega
    · have e : k = S.2.2 := by omega
      exact ⟨k, (h2 e).1, e, (h2 e).2⟩
  | n + 1, k, S, hk, hn, h1, h2 => by
    rw [bfR]
    by_cases c : k < S.2.2
    · rw [if_pos c]
      have hI := h1 c
      obtain ⟨x, hx, ex, -⟩ := hI.1.1 k c
      rw [ex, nI_clamp (by omega)]
      obtain ⟨w1, w2, w3⟩ := bW_A hI.1 c hx ex 3 (Nat.le_refl 3)
      have hA := bI_A hI c hx ex 3 (Nat.le_refl 3)
      refine bI_R n (k + 1) _ (by omega) (by omega) (fun c2 => ?_) (fun e => ⟨Nat.succ_pos k, hA⟩)
      obtain ⟨g1, g2, g3, g4, g5, g6⟩ := hA
      refine ⟨g1, g2, g3, g4, fun j hj => ?_, fun i a ha hi hor => g6 i a ha hi (by omega)⟩
      have a1 := g5 j hj
      have a2 := g4 k (k + 1) (by omega) c2
      omega
    · rw [if_neg c]
      have e : k = S.2.2 := by omega
      exact ⟨k, (h2 e).1, e, (h2 e).2⟩
theorem FP_all : FPok := by
  intro q t hq ht
  have h0 : bI q 0 0 (upd (fi0 (fun _ => 0) (-1) 256) q 0, upd (fun _ => 0) 0 (nI q), 1) := by
    have u0 : upd (fi0 (fun _ => 0) (-1) 256) q 0 q = 0 := upd_same _ _ _
    refine ⟨bW_0 _ _ hq, fun y hy hf => ?_, u0, fun i j hij hj => ?_, fun j hj => ?_, fun i a ha hi hor => ?_⟩
    · by_cases e : y = q
      · subst e
        have e2 : dN (upd (fi0 (fun _ => 0) (-1) 256) y 0, upd (fun _ => 0) 0 (nI y), 1) y = 0 := by
          unfold dN
          rw [show (upd (fi0 (fun _ => 0) (-1) 256) y 0, upd (fun _ => (0 : Int32)) 0 (nI y), 1).1 y = 0 from u0]
          decide
        rw [e2]
        exact ⟨rfl, 0, Nat.zero_lt_one, (show upd (fun _ => (0 : Int32)) 0 (nI y) 0 = nI y from upd_same _ _ _)⟩
      · exact absurd ((upd_ne _ _ e).trans (fi0_lt _ _ 256 hy)) hf
    · have hj : j < 1 := hj
      have e1 : j = 0 := by omega
      have e2 : i = 0 := by omega
      rw [e1, e2]
      exact Nat.le_refl _
    · have hj : j < 1 := hj
      have e1 : j = 0 := by omega
      rw [e1]
      exact Nat.le_succ _
    · omega
  obtain ⟨k, hk, ek, hI⟩ := bI_R 257 0 _ (Nat.zero_le _) (by omega) (fun _ => h0) (fun e => absurd e (show ¬ (0 : Nat) = 1 by decide))
  obtain ⟨S, hS⟩ : ∃ S, S = bfR 257 0 (upd (fi0 (fun _ => 0) (-1) 256) q 0, upd (fun _ => 0) 0 (nI q), 1) := ⟨_, rfl⟩
  rw [← hS] at hI ek
  have hd : dist q t = S.1 t := by
    unfold dist
    rw [BF_eq, hS]
  obtain ⟨g1, g2, g3, g4, g5, g6⟩ := hI
  have key : ∀ n y, Dq q n y → ¬ S.1 y = -1 ∧ dN S y ≤ n := by
    intro n
    induction n with
    | zero =>
      intro y h
      have h : y = q := h
      rw [h]
      unfold dN
      rw [g3]
      exact ⟨by decide, by decide⟩
    | succ n ih =>
      intro y ⟨x, a, hx, ha, h, e⟩
      obtain ⟨a1, a2⟩ := ih x h
      obtain ⟨-, j, hj, ej⟩ := g2 x hx a1
      have q1 : qN S j = x := by
        unfold qN
        rw [ej, nI_clamp (by omega)]
      have := g6 j a ha hj (by omega)
      rw [q1] at this
      rw [e]
      exact ⟨this.1, by omega⟩
  rw [hd]
  by_cases c : S.1 t = -1
  · exact Or.inl ⟨c, fun n h => (key n t h).1 c⟩
  · obtain ⟨d, hd1, hd2⟩ := (g1.2.2 t ht).resolve_left c
    have hle := bW_le g1
    have e : dN S t = d := by
      unfold dN
      rw [hd2, nI_clamp (by omega)]
    refine Or.inr ⟨d, by omega, hd2, e ▸ (g2 t ht c).1, fun m hm h => ?_⟩
    have := (key m t h).2
    omega
