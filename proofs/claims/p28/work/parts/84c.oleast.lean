/-! ===== the openings are the least first acts ===== -/
def oN (O : Nat → Int32) (y : Nat) : Nat := (O y).toNatClampNeg
def oI (q k b : Nat) (S : bT) (O : Nat → Int32) : Prop := bI q k b S ∧ (∀ y, y < 256 → S.1 y = -1 → O y = -1) ∧ O q = -1 ∧ (∀ y, y < 256 → ¬ y = q → ¬ S.1 y = -1 → ∃ a d, a < 3 ∧ O y = nI a ∧ dN S y = d + 1 ∧ Dq (actN q a) d y) ∧ (0 < S.2.2 ∧ S.2.1 0 = nI q) ∧ (∀ j, j < S.2.2 → dN S (qN S j) = dN S (qN S k) + 1 → oN O (qN S j) ≤ if k = 0 then b else oN O (qN S k)) ∧ (∀ i j, 0 < i → i ≤ j → j < S.2.2 → dN S (qN S i) = dN S (qN S j) → oN O (qN S i) ≤ oN O (qN S j)) ∧
  ∀ i a, a < 3 → i < S.2.2 → (i < k ∨ (i = k ∧ a < b)) → dN S (actN (qN S i) a) = dN S (qN S i) + 1 → oN O (actN (qN S i) a) ≤ if i = 0 then a else oN O (qN S i)
theorem oI_1 {q k b x : Nat} {S : bT} {O : Nat → Int32} (hq : q < 256) (h : oI q k b S O) (hk : k < S.2.2) (hx : x < 256) (hQ : S.2.1 k = nI x) (hb : b < 3) : oI q k (b + 1) (bf1 S x b) (of1 S O x k b) := by
  obtain ⟨hB, p1, p2, p3, ⟨p0, p4⟩, p5, p6, p7⟩ := h
  have hB1 := bI_1 hB hk hx hQ hb
  obtain ⟨hW, h2, h3, h4, h5, h6⟩ := hB
  have hz := (actN_ok x hx b hb).2
  have qk : qN S k = x := by
    unfold qN
    rw [hQ, nI_clamp (by omega)]
  have hx9 : ¬ S.1 x = -1 := by
    obtain ⟨y, hy, ey, hf⟩ := hW.1 k hk
    have := (nI_eq (by omega) (by omega)).mp (hQ.symm.trans ey)
    rw [this]
    exact hf
  by_cases c : S.1 (actN x b) = -1
  · have eS : bf1 S x b = (upd S.1 (actN x b) (S.1 x + 1), upd S.2.1 S.2.2 (nI (actN x b)), S.2.2 + 1) := if_pos c
    have eO : of1 S O x k b = upd O (actN x b) (if k = 0 then nI b else O x) := if_pos c
    obtain ⟨d, hd, ed⟩ := (hW.2.2 x hx).resolve_left hx9
    have hle := bW_le hW
    obtain ⟨S', hS'⟩ : ∃ S' : bT, S' = bf1 S x b := ⟨_, rfl⟩
    obtain ⟨O', hO'⟩ : ∃ O' : Nat → Int32, O' = of1 S O x k b := ⟨_, rfl⟩
    rw [← hS', ← hO']
    rw [← hS'] at hB1
    rw [eS] at hS'
    rw [eO] at hO'
    have c1 : ∀ y, y ≠ actN x b → S'.1 y = S.1 y := fun y hy => by rw [hS']; exact upd_ne _ _ hy
    have c2 : S'.1 (actN x b) = S.1 x + 1 := by rw [hS']; exact upd_same _ _ _
    have c3 : ∀ j, j < S.2.2 → S'.2.1 j = S.2.1 j := fun j hj => by rw [hS']; exact upd_ne _ _ (by omega)
    have c4 : S'.2.1 S.2.2 = nI (actN x b) := by rw [hS']; exact upd_same _ _ _
    have c5 : S'.2.2 = S.2.2 + 1 := by rw [hS']
    have c6 : ∀ y, y ≠ actN x b → O' y = O y := fun y hy => by rw [hO']; exact upd_ne _ _ hy
    have c7 : O' (actN x b) = if k = 0 then nI b else O x := by rw [hO']; exact upd_same _ _ _
    have dx : dN S x = d := by
      unfold dN
      rw [ed, nI_clamp (by omega)]
    have dz : dN S' (actN x b) = d + 1 := by
      unfold dN
      rw [c2, ed, nI_1, nI_clamp (by omega)]
    have do9 : ∀ y, y ≠ actN x b → dN S' y = dN S y ∧ oN O' y = oN O y := fun y hy => by
      unfold dN oN
      rw [c1 y hy, c6 y hy]
      exact ⟨rfl, rfl⟩
    have qj : ∀ j, j < S.2.2 → qN S' j = qN S j ∧ qN S j ≠ actN x b := fun j hj => by
      have a1 : qN S' j = qN S j := by
        unfold qN
        rw [c3 j hj]
      obtain ⟨y, hy, ey, hf⟩ := hW.1 j hj
      have a3 : qN S j = y := by
        unfold qN
        rw [ey, nI_clamp (by omega)]
      exact ⟨a1, fun e => by
        rw [a3] at e
        rw [e] at hf
        exact hf c⟩
    have qc : qN S' S.2.2 = actN x b := by
      unfold qN
      rw [c4, nI_clamp (by omega)]
    have zq : ¬ q = actN x b := fun e => by
      rw [← e, h3] at c
      exact absurd c (by decide)
    have q0 : qN S 0 = q := by
      unfold qN
      rw [p4, nI_clamp (by omega)]
    have xq : k = 0 → x = q := fun e => by rw [← qk, e, q0]
    have xn : ¬ k = 0 → ¬ x = q := fun e e2 => by
      subst e2
      exact hW.2.1 0 k (by omega) hk (p4.trans hQ.symm)
    have dq : dN S q = 0 := by
      unfold dN
      rw [h3]
      decide
    have oz : oN O' (actN x b) = if k = 0 then b else oN O x := by
      unfold oN
      rw [c7]
      split
      · rw [nI_clamp (by omega)]
      · rfl
    obtain ⟨kq1, kq2⟩ := qj k hk
    rw [qk] at kq2
    have kq3 : qN S' k = x := kq1.trans qk
    have bd : ∀ j, j < S.2.2 → dN S (qN S j) = d + 1 → oN O (qN S j) ≤ if k = 0 then b else oN O x := fun j hj e => by
      have := p5 j hj (by rw [e, qk, dx])
      rw [qk] at this
      exact this
    refine ⟨hB1, fun y hy hf => ?_, ?_, fun y hy hyq hf => ?_, ⟨by omega, ?_⟩, fun j hj e => ?_, fun i j h0 hij hj e => ?_, fun i a ha hi hor e => ?_⟩
    · by_cases e : y = actN x b
      · rw [e, c2, ed, nI_1] at hf
        exact absurd hf (nI_nm1 (by omega))
      · rw [c1 y e] at hf
        rw [c6 y e]
        exact p1 y hy hf
    · rw [c6 q zq]
      exact p2
    · by_cases e : y = actN x b
      · rw [e, c7, dz]
        by_cases k0 : k = 0
        · rw [if_pos k0]
          have hxq := xq k0
          refine ⟨b, d, hb, rfl, rfl, ?_⟩
          have d0 : d = 0 := by rw [← dx, hxq, dq]
          rw [d0, hxq]
          rfl
        · rw [if_neg k0]
          obtain ⟨a, d1, ha, ea, e1, e2⟩ := p3 x hx (xn k0) hx9
          refine ⟨a, d, ha, ea, rfl, ?_⟩
          rw [dx] at e1
          rw [e1]
          exact ⟨x, b, hx, hb, e2, rfl⟩
      · rw [c1 y e] at hf
        rw [c6 y e, (do9 y e).1]
        exact p3 y hy hyq hf
    · rw [c3 0 p0]
      exact p4
    · rw [c5] at hj
      rw [kq3] at e ⊢
      rw [(do9 x kq2).1, dx] at e
      rw [(do9 x kq2).2]
      have g : oN O' (qN S' j) ≤ if k = 0 then b else oN O x := by
        by_cases e2 : j = S.2.2
        · rw [e2, qc, oz]
          exact Nat.le_refl _
        · obtain ⟨a1, a2⟩ := qj j (by omega)
          rw [a1, (do9 _ a2).1] at e
          rw [a1, (do9 _ a2).2]
          exact bd j (by omega) e
      split at g
      · next k0 => rw [if_pos k0]; omega
      · next k0 => rw [if_neg k0]; exact g
    · rw [c5] at hj
      by_cases e2 : j = S.2.2
      · rw [e2, qc] at e ⊢
        by_cases e3 : i = S.2.2
        · rw [e3, qc]
          exact Nat.le_refl _
        · obtain ⟨a1, a2⟩ := qj i (by omega)
          rw [a1, (do9 _ a2).1, dz] at e
          rw [a1, (do9 _ a2).2, oz]
          exact bd i (by omega) e
      · obtain ⟨a1, a2⟩ := qj j (by omega)
        obtain ⟨b1, b2⟩ := qj i (by omega)
        rw [a1, b1, (do9 _ a2).1, (do9 _ b2).1] at e
        rw [a1, b1, (do9 _ a2).2, (do9 _ b2).2]
        exact p6 i j h0 hij (by omega) e
    · rw [c5] at hi
      have hi9 : i < S.2.2 := by
        rcases hor with q1 | ⟨q1, _⟩ <;> omega
      obtain ⟨a1, a2⟩ := qj i hi9
      rw [a1] at e ⊢
      rw [(do9 _ a2).1] at e
      rw [(do9 _ a2).2]
      by_cases e5 : i < k ∨ (i = k ∧ a < b)
      · have hne : actN (qN S i) a ≠ actN x b := fun z => (h6 i a ha hi9 e5).1 (z ▸ c)
        rw [(do9 _ hne).1] at e
        rw [(do9 _ hne).2]
        exact p7 i a ha hi9 e5 e
      · have e6 : i = k ∧ a = b := by omega
        rw [e6.1, e6.2, qk, oz]
        exact Nat.le_refl _
  · have eS : bf1 S x b = S := if_neg c
    have eO : of1 S O x k b = O := if_neg c
    rw [eS] at hB1
    rw [eS, eO]
    refine ⟨hB1, p1, p2, p3, ⟨p0, p4⟩, fun j hj e => ?_, p6, fun i a ha hi hor e => ?_⟩
    · have g := p5 j hj e
      split at g
      · next k0 => rw [if_pos k0]; omega
      · next k0 => rw [if_neg k0]; exact g
    · by_cases e5 : i < k ∨ (i = k ∧ a < b)
      · exact p7 i a ha hi e5 e
      · have e6 : i = k ∧ a = b := by omega
        rw [e6.1, e6.2, qk] at e ⊢
        obtain ⟨-, j, hj, ej⟩ := h2 _ hz c
        have q1 : qN S j = actN x b := by
          unfold qN
          rw [ej, nI_clamp (by omega)]
        have g := p5 j hj (by rw [q1, qk]; exact e)
        rw [q1, qk] at g
        exact g
