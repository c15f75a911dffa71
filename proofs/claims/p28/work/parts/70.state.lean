/-! ===== the state of both sides ===== -/
def cap (g : Nat) : Nat := if g ≤ 10 then 10 else if g ≤ 15 then 15 else 22
def liF (ad ix : Nat → Nat) (g : Nat) : Nat → Option Nat := fun i => if i < g then some (ad (ix i)) else none
theorem liF_at {ad ix : Nat → Nat} {g i : Nat} (h : i < g) : liF ad ix g i = some (ad (ix i)) := if_pos h
/-- the cell j of the class (16: the law's row for answers), out of its row r; N: how many melts, billets, dies; mst, bst: the steels of melts, of billets -/
def gRow (ad : Nat → Nat) (T : Nat → ClassId) (ea : Nat) (f : Nat → Int64) (N mst bst : Nat → Nat) (r : Nat → Int32) (j : Nat) : va_E :=
  if j < 100 then (match j with
    | 0 => .inr (6, hsF ad (r 0))
    | 1 => .inl (T 4, 4, qa (stf ad))
    | 6 => .inr (0, [.int (r 0), .ref (if N 0 = 0 then ea else ad 20), .int (nI (N 0))])
    | 7 => .inr (0, [.int (r 0), .ref (if N 1 = 0 then ea else ad 21), .int (nI (N 1))])
    | 8 => .inr (0, [.int (r 0), .ref (if N 2 = 0 then ea else ad 22), .int (nI (N 2))])
    | 9 => .inl (T 0, 20, .inl r)
    | 10 => .inr (3, [.ref (ad 11), .ref (ad 12), .ref (ad 13)])
    | 11 => .inl (T 0, 256, .inl r)
    | 12 => .inl (T 0, 256, .inl r)
    | 13 => .inl (T 0, 256, .inl r)
    | 14 => .inr (4, [.ref (ad 15), .int (r 0), .int (r 1)])
    | 15 => .inl (T 0, 12, .inl r)
    | 16 => .inl (T 2, 1, .inr (.inl f))
    | 20 => .inl (T 3, cap (N 0), qa (liF ad (fun i => 2 + mst i) (N 0)))
    | 21 => .inl (T 3, cap (N 1), qa (liF ad (fun i => 100 + 3 * i) (N 1)))
    | 22 => .inl (T 3, cap (N 2), qa (liF ad (fun i => 200 + 2 * i) (N 2)))
    | _ => .inr (5, [.int (r 0), .int (r 1), .int (r 2)]))
  else if j < 200 then (if (j - 100) % 3 = 0 then .inr (1, biF (ad (j + 1)) (ad (j + 2)) (ad (2 + bst ((j - 100) / 3))) r) else .inl (T 0, 8, .inl r))
  else if (j - 200) % 2 = 0 then .inr (2, [.ref (ad (j + 1)), .int (r 0)]) else .inl (T 0, 8, .inl r)
def hG (ad : Nat → Nat) (T : Nat → ClassId) (ea : Nat) (f : Nat → Int64) (N mst bst : Nat → Nat) (ρ : Nat → Nat → Int32) (j : Nat) : va_E := gRow ad T ea f N mst bst (ρ j) j
section HG
variable {ad : Nat → Nat} {T : Nat → ClassId} {ea : Nat} {f : Nat → Int64} {N mst bst : Nat → Nat} {ρ : Nat → Nat → Int32}
theorem hG_s {s : Nat} (h : s < 4) : hG ad T ea f N mst bst ρ (2 + s) = .inr (5, [.int (ρ (2 + s) 0), .int (ρ (2 + s) 1), .int (ρ (2 + s) 2)]) := by
  have e : s = 0 ∨ s = 1 ∨ s = 2 ∨ s = 3 := by omega
  rcases e with rfl | rfl | rfl | rfl <;> rfl
theorem hG_b {i : Nat} (h : i < 12) : hG ad T ea f N mst bst ρ (100 + 3 * i) = .inr (1, biF (ad (101 + 3 * i)) (ad (102 + 3 * i)) (ad (2 + bst i)) (ρ (100 + 3 * i))) := by
  unfold hG gRow
  rw [if_neg (by omega), if_pos (by omega), if_pos (by omega), show (100 + 3 * i - 100) / 3 = i by omega, show 100 + 3 * i + 1 = 101 + 3 * i by omega, show 100 + 3 * i + 2 = 102 + 3 * i by omega]
theorem hG_a {i : Nat} (h : i < 12) : hG ad T ea f N mst bst ρ (101 + 3 * i) = .inl (T 0, 8, .inl (ρ (101 + 3 * i))) := by
  unfold hG gRow
  rw [if_neg (by omega), if_pos (by omega), if_neg (by omega)]
theorem hG_q {i : Nat} (h : i < 12) : hG ad T ea f N mst bst ρ (102 + 3 * i) = .inl (T 0, 8, .inl (ρ (102 + 3 * i))) := by
  unfold hG gRow
  rw [if_neg (by omega), if_pos (by omega), if_neg (by omega)]
theorem hG_d {d : Nat} (_h : d < 4) : hG ad T ea f N mst bst ρ (200 + 2 * d) = .inr (2, [.ref (ad (201 + 2 * d)), .int (ρ (200 + 2 * d) 0)]) := by
  unfold hG gRow
  rw [if_neg (by omega), if_neg (by omega), if_pos (by omega), show 200 + 2 * d + 1 = 201 + 2 * d by omega]
theorem hG_e {d : Nat} (_h : d < 4) : hG ad T ea f N mst bst ρ (201 + 2 * d) = .inl (T 0, 8, .inl (ρ (201 + 2 * d))) := by
  unfold hG gRow
  rw [if_neg (by omega), if_neg (by omega), if_neg (by omega)]
theorem hG_row {f' : Nat → Int64} {ρ' : Nat → Nat → Int32} {j : Nat} (h : ρ' j = ρ j) (h16 : j ≠ 16) : hG ad T ea f' N mst bst ρ' j = hG ad T ea f N mst bst ρ j := by
  unfold hG
  rw [h]
  unfold gRow
  split
  · split <;> first | rfl | exact absurd rfl h16
  · rfl
end HG
/-- which cells there are -/
def liv (N : Nat → Nat) (j : Nat) : Prop := j < 16 ∨ (j = 20 ∧ 0 < N 0) ∨ (j = 21 ∧ 0 < N 1) ∨ (j = 22 ∧ 0 < N 2) ∨ (100 ≤ j ∧ j < 100 + 3 * N 1) ∨ (200 ≤ j ∧ j < 200 + 2 * N 2)
/-- a contract over cells by number is one over more of them -/
theorem fr_iw {l : Launch} {y : MethodName} {wsy : List Cond} {rm : Room} {P : (Nat → Prop) → State → Heap → Prop} (hk : zHp P) {D : va_G} {T : Nat → ClassId} {S : Type} {J js : List Nat} {ad : Nat → Nat} {G : Nat → va_E} {wG : S → va_W} {as : List Value} {rv : Int32} {mc ms : Nat} (h : ZIH l y wsy rm P D T (iw js ad G) wG as rv mc ms)
    (hJ : J.Nodup) (hjs : js.Nodup) (hsub : ∀ j ∈ js, j ∈ J) (G' : S → Nat → va_E) (tl : S → va_W) (hwG : ∀ u, wG u = iw js ad (G' u) ++ tl u) (hag : ∀ u j, j ∈ J → j ∉ js → G' u j = G j) : ZIH l y wsy rm P D T (iw J ad G) (fun u => iw J ad (G' u) ++ tl u) as rv mc ms := by
  obtain ⟨is, h1, h2, h3⟩ := iw_places [] hJ hjs hsub ad G
  have el : ∀ u, (iw js ad (G' u)).length = (iw js ad G).length := fun u => by unfold iw; rw [List.length_map, List.length_map]
  refine zIH_frame hk h is h1 h2 (fun u j hj => ?_) (fun u => ?_) (fun u => ?_)
  · rw [hwG u, List.map_append, List.getElem?_append_left (by rw [List.length_map, el u]; exact hj)]
    unfold iw
    rw [List.map_map, List.map_map]
    rfl
  · rw [hwG u, List.length_append, el u]
    exact Nat.le_add_right _ _
  · rw [hwG u]
    exact h3 (G' u) (tl u) (hag u)
/-- rows put anew -/
def upR (ρ : Nat → Nat → Int32) (j : Nat) (r : Nat → Int32) : Nat → Nat → Int32 := fun k => if k = j then r else ρ k
theorem upR_at (ρ : Nat → Nat → Int32) (j : Nat) (r : Nat → Int32) : upR ρ j r j = r := if_pos rfl
theorem upR_ne (ρ : Nat → Nat → Int32) {j k : Nat} (r : Nat → Int32) (h : k ≠ j) : upR ρ j r k = ρ k := if_neg h
theorem bin0 {v lo hi : Int32} : bin v lo hi = 0 ↔ v < lo ∨ hi < v := by
  unfold bin
  by_cases h1 : v < lo
  · rw [if_pos h1]
    exact ⟨fun _ => Or.inl h1, fun _ => rfl⟩
  · rw [if_neg h1]
    by_cases h2 : hi < v
    · rw [if_pos h2]
      exact ⟨fun _ => Or.inr h2, fun _ => rfl⟩
    · rw [if_neg h2]
      exact ⟨fun h => absurd h (by decide), fun h => h.elim (fun q => absurd q h1) (fun q => absurd q h2)⟩
theorem bin1 {v lo hi : Int32} : bin v lo hi = 1 ↔ ¬ v < lo ∧ ¬ hi < v := by
  unfold bin
  by_cases h1 : v < lo
  · rw [if_pos h1]
    exact ⟨fun h => absurd h (by decide), fun h => absurd h1 h.1⟩
  · rw [if_neg h1]
    by_cases h2 : hi < v
    · rw [if_pos h2]
      exact ⟨fun h => absurd h (by decide), fun h => absurd h2 h.2⟩
    · rw [if_neg h2]
      exact ⟨fun _ => ⟨h1, h2⟩, fun _ => rfl⟩
