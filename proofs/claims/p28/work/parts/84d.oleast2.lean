/-! ===== the openings are the least first acts, to the end ===== -/
theorem oI_A {q k x : Nat} {S : bT} {O : Nat → Int32} (hq : q < 256) (h : oI q k 0 S O) (hk : k < S.2.2) (hx : x < 256) (hQ : S.2.1 k = nI x) : ∀ b, b ≤ 3 → oI q k b (bfA S x b) (ofA S O x k b)
  | 0, _ => h
  | b + 1, hb => by
    obtain ⟨w1, w2, w3⟩ := bW_A h.1.1 hk hx hQ b (by omega)
    rw [bfA, ofA]
    exact oI_1 hq (oI_A hq h hk hx hQ b (by omega)) (by omega) hx w2 (by omega)
theorem oI_R {q : Nat} (hq : q < 256) : ∀ n k (S : bT) (O : Nat → Int32), k ≤ S.2.2 → 257 ≤ n + k → (k < S.2.2 → oI q k 0 S O) → (k = S.2.2 → 0 < k ∧ oI q (k - 1) 3 S O) → ∃ k', 0 < k' ∧ k' = (bfR n k S).2.2 ∧ oI q (k' - 1) 3 (bfR n k S) (ofR n k S O)
  | 0, k, S, O, hk, hn, h1, h2 => by
    by_cases c : k < S.2.2
    · have := bW_le (h1 c).1.1
      omega
    · have e : k = S.2.2 := by omega
      exact ⟨k, (h2 e).1, e, (h2 e).2⟩
  | n + 1, k, S, O, hk, hn, h1, h2 => by
    rw [bfR, ofR]
    by_cases c : k < S.2.2
    · rw [if_pos c, if_pos c]
      have hI := h1 c
      obtain ⟨x, hx, ex, -⟩ := hI.1.1.1 k c
      rw [ex, nI_clamp (by omega)]
      obtain ⟨w1, w2, w3⟩ := bW_A hI.1.1 c hx ex 3 (Nat.le_refl 3)
      have hA := oI_A hq hI c hx ex 3 (Nat.le_refl 3)
      refine oI_R hq n (k + 1) _ _ (by omega) (by omega) (fun c2 => ?_) (fun e => ⟨Nat.succ_pos k, hA⟩)
      obtain ⟨⟨g1, g2, g3, g4, g5, g6⟩, p1, p2, p3, ⟨p0, p4⟩, p5, p6, p7⟩ := hA
      have a2 := g4 k (k + 1) (by omega) c2
      refine ⟨⟨g1, g2, g3, g4, fun j hj => ?_, fun i a ha hi hor => g6 i a ha hi (by omega)⟩, p1, p2, p3, ⟨p0, p4⟩, fun j hj e => ?_, p6, fun i a ha hi hor e => p7 i a ha hi (by omega) e⟩
      · have a1 := g5 j hj
        omega
      · rw [if_neg (Nat.succ_ne_zero k)]
        have a1 := g5 j hj
        have a3 := p5 j hj (by omega)
        by_cases k0 : k = 0
        · exfalso
          subst k0
          obtain ⟨y, hy, ey, hf⟩ := g1.1 (0 + 1) c2
          have hyq : ¬ y = q := fun z => by
            subst z
            exact g1.2.1 0 (0 + 1) (by omega) c2 (p4.trans ey.symm)
          obtain ⟨a, d, ha, ea, ed, -⟩ := p3 y hy hyq hf
          have q1 : qN (bfA S x 3) (0 + 1) = y := by
            unfold qN
            rw [ey, nI_clamp (by omega)]
          have q0 : qN (bfA S x 3) 0 = q := by
            unfold qN
            rw [p4, nI_clamp (by omega)]
          have dq : dN (bfA S x 3) q = 0 := by
            unfold dN
            rw [g3]
            decide
          rw [q1] at e
          rw [q0, dq] at a1
          rw [ed] at e
          omega
        · rw [if_neg k0] at a3
          have a4 := p6 k (k + 1) (by omega) (by omega) c2 (by omega)
          omega
    · rw [if_neg c, if_neg c]
      have e : k = S.2.2 := by omega
      exact ⟨k, (h2 e).1, e, (h2 e).2⟩
theorem OPn_all : OPn := by
  intro f0 f1 f2 q t hq ht
  have h0 : oI q 0 0 (upd (fi0 f0 (-1) 256) q 0, upd f2 0 (nI q), 1) (fi0 f1 (-1) 256) := by
    have u0 : upd (fi0 f0 (-1) 256) q 0 q = 0 := upd_same _ _ _
    have v0 : upd f2 0 (nI q) 0 = nI q := upd_same _ _ _
    have un : ∀ y, y < 256 → ¬ y = q → upd (fi0 f0 (-1) 256) q 0 y = -1 := fun y hy e => (upd_ne _ _ e).trans (fi0_lt _ _ 256 hy)
    refine ⟨⟨bW_0 _ _ hq, fun y hy hf => ?_, u0, fun i j hij hj => ?_, fun j hj => ?_, fun i a ha hi hor => by omega⟩, fun y hy _ => fi0_lt _ _ 256 hy, fi0_lt _ _ 256 hq, fun y hy e hf => absurd (un y hy e) hf, ⟨Nat.zero_lt_one, v0⟩, fun j hj e => ?_, fun i j h0 hij hj e => ?_, fun i a ha hi hor e => by omega⟩
    · by_cases e : y = q
      · subst e
        have e2 : dN (upd (fi0 f0 (-1) 256) y 0, upd f2 0 (nI y), 1) y = 0 := by
          unfold dN
          rw [show (upd (fi0 f0 (-1) 256) y 0, upd f2 0 (nI y), 1).1 y = 0 from u0]
          decide
        rw [e2]
        exact ⟨rfl, 0, Nat.zero_lt_one, v0⟩
      · exact absurd (un y hy e) hf
    · have hj : j < 1 := hj
      have e1 : j = 0 := by omega
      have e2 : i = 0 := by omega
      rw [e1, e2]
      exact Nat.le_refl _
    · have hj : j < 1 := hj
      have e1 : j = 0 := by omega
      rw [e1]
      exact Nat.le_succ _
    · have hj : j < 1 := hj
      have e1 : j = 0 := by omega
      rw [e1] at e
      omega
    · have hj : j < 1 := hj
      omega
  obtain ⟨k, hk, ek, hI⟩ := oI_R hq 257 0 _ _ (Nat.zero_le _) (by omega) (fun _ => h0) (fun e => absurd e (show ¬ (0 : Nat) = 1 by decide))
  obtain ⟨S, hS⟩ : ∃ S, S = bfR 257 0 (upd (fi0 f0 (-1) 256) q 0, upd f2 0 (nI q), 1) := ⟨_, rfl⟩
  obtain ⟨O, hO⟩ : ∃ O, O = ofR 257 0 (upd (fi0 f0 (-1) 256) q 0, upd f2 0 (nI q), 1) (fi0 f1 (-1) 256) := ⟨_, rfl⟩
  rw [← hS, ← hO] at hI
  rw [← hS] at ek
  have hd : dist q t = S.1 t := by
    rw [← BF_ind f0 f2 hq ht, BF_eq, hS]
  rw [OP_eq, ← hO, hd]
  obtain ⟨⟨g1, g2, g3, g4, g5, g6⟩, p1, p2, p3, ⟨p0, p4⟩, p5, p6, p7⟩ := hI
  have dq : dN S q = 0 := by
    unfold dN
    rw [g3]
    decide
  have key : ∀ n y, Dq q n y → ¬ S.1 y = -1 ∧ dN S y ≤ n := by
    intro n
    induction n with
    | zero =>
      intro y h
      have h : y = q := h
      rw [h, dq, g3]
      exact ⟨by decide, Nat.le_refl _⟩
    | succ n ih =>
      intro y ⟨x, a, hx, ha, h, e⟩
      obtain ⟨a1, a2⟩ := ih x h
      obtain ⟨-, j, hj, ej⟩ := g2 x hx a1
      have q1 : qN S j = x := by
        unfold qN
        rw [ej, nI_clamp (by omega)]
      have := g6 j a ha hj (by omega)
      rw [q1] at this
      rw [e]
      exact ⟨this.1, by omega⟩
  have q0 : qN S 0 = q := by
    unfold qN
    rw [p4, nI_clamp (by omega)]
  have low : ∀ a', a' < 3 → ∀ n y, Dq (actN q a') n y → dN S y = n + 1 → oN O y ≤ a' := by
    intro a' ha' n
    induction n with
    | zero =>
      intro y h e
      have h : y = actN q a' := h
      have := p7 0 a' ha' p0 (by omega) (by rw [q0, ← h, e, dq])
      rw [q0, if_pos rfl, ← h] at this
      exact this
    | succ n ih =>
      intro y ⟨x, c, hx, hc, h, ey⟩ e
      obtain ⟨a1, a2⟩ := key (n + 1) x (Dq_cons hq ha' n x h)
      obtain ⟨-, j, hj, ej⟩ := g2 x hx a1
      have q1 : qN S j = x := by
        unfold qN
        rw [ej, nI_clamp (by omega)]
      have b1 := (g6 j c hc hj (by omega)).2
      rw [q1, ← ey] at b1
      have b2 : dN S x = n + 1 := by omega
      have j0 : ¬ j = 0 := fun z => by
        rw [z, q0] at q1
        rw [← q1, dq] at b2
        omega
      have b3 := p7 j c hc hj (by omega) (by rw [q1, ← ey, e, b2])
      rw [q1, ← ey, if_neg j0] at b3
      exact Nat.le_trans b3 (ih x h b2)
  refine ⟨fun h => ?_, fun d hne h1 h2 => ?_⟩
  · rcases h with h | h
    · rw [h]
      exact p2
    · exact p1 t ht h
  · have hf : ¬ S.1 t = -1 := by
      rw [h1]
      exact nI_nm1 (by omega)
    obtain ⟨a, d', ha, ea, ed, eq9⟩ := p3 t ht hne hf
    have e : dN S t = d + 1 := by
      unfold dN
      rw [h1, nI_clamp (by omega)]
    have e2 : d' = d := by omega
    rw [e2] at eq9
    refine ⟨a, ha, ea, eq9, fun a' ha' h => ?_⟩
    have := low a' (by omega) d t h e
    have o9 : oN O t = a := by
      unfold oN
      rw [ea, nI_clamp (by omega)]
    omega