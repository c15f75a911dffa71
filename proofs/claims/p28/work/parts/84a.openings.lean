/-! ===== the openings of the search: what remains to be shown of the search, and what follows ===== -/
/-- y is n acts away from q -/
def Dq (q : Nat) : Nat → Nat → Prop
  | 0, y => y = q
  | n + 1, y => ∃ x a, x < 256 ∧ a < 3 ∧ Dq q n x ∧ y = actN x a
theorem Dq_lt {q : Nat} (hq : q < 256) : ∀ n y, Dq q n y → y < 256
  | 0, y, h => by
    have h : y = q := h
    rw [h]
    exact hq
  | n + 1, y, ⟨x, a, hx, ha, _, e⟩ => by
    rw [e]
    exact (actN_ok x hx a ha).2
theorem Dq_cons {q a : Nat} (hq : q < 256) (ha : a < 3) : ∀ n y, Dq (actN q a) n y → Dq q (n + 1) y
  | 0, y, h => ⟨q, a, hq, ha, rfl, h⟩
  | n + 1, y, ⟨x, b, hx, hb, h, e⟩ => ⟨x, b, hx, hb, Dq_cons hq ha n x h, e⟩
theorem Dq_front {q : Nat} : ∀ n y, Dq q (n + 1) y → ∃ a, a < 3 ∧ Dq (actN q a) n y
  | 0, y, ⟨x, a, _, ha, h, e⟩ => ⟨a, ha, by
    have h : x = q := h
    show y = actN q a
    rw [e, h]⟩
  | n + 1, y, ⟨x, b, hx, hb, h, e⟩ => by
    obtain ⟨a, ha, h2⟩ := Dq_front n x h
    exact ⟨a, ha, x, b, hx, hb, h2, e⟩
/-- the search finds the least number of acts -/
def FPok : Prop := ∀ q t, q < 256 → t < 256 → (dist q t = -1 ∧ ∀ n, ¬ Dq q n t) ∨ ∃ d, d < 256 ∧ dist q t = nI d ∧ Dq q d t ∧ ∀ m, m < d → ¬ Dq q m t
/-- its openings: -1 for the start and for what isn't found, else the least first act of a shortest way -/
def OPn : Prop := ∀ (f0 f1 f2 : Nat → Int32) (q t : Nat), q < 256 → t < 256 → (t = q ∨ dist q t = -1 → OP f0 f2 f1 q t = -1) ∧ ∀ d, ¬ t = q → dist q t = nI (d + 1) → d < 255 → ∃ a, a < 3 ∧ OP f0 f2 f1 q t = nI a ∧ Dq (actN q a) d t ∧ ∀ a', a' < a → ¬ Dq (actN q a') d t
theorem dist_act (hF : FPok) {q t d a : Nat} (hq : q < 256) (ht : t < 256) (hd : d < 255) (hmin : ∀ m, m < d + 1 → ¬ Dq q m t) (ha : a < 3) : dist (actN q a) t = nI (d + 1) - 1 ↔ Dq (actN q a) d t := by
  have e1 : nI (d + 1) - 1 = nI d := by
    have := pk_sub (a := d + 1) (b := 1) (by omega)
    rw [show (1 : Int32) = nI 1 from rfl, this, Nat.add_sub_cancel]
  rw [e1]
  have hq2 := (actN_ok q hq a ha).2
  rcases hF (actN q a) t hq2 ht with ⟨h1, h2⟩ | ⟨e, h0, h1, h2, h3⟩
  · rw [h1]
    exact ⟨fun h => absurd h.symm (nI_nm1 (by omega)), fun h => absurd h (h2 d)⟩
  · rw [h1]
    constructor
    · intro h
      have := (nI_eq (by omega) (by omega)).mp h
      rw [← this]
      exact h2
    · intro h
      have a1 : ¬ d < e := fun q => h3 d q h
      have a2 : ¬ e < d := fun q9 => hmin (e + 1) (by omega) (Dq_cons hq ha e t h2)
      have e2 : e = d := by omega
      rw [e2]