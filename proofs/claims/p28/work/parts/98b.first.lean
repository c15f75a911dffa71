/-! ===== the first state ===== -/
def zl_5 (o ea : Nat) (T : Nat → ClassId) (ad : Nat → Nat) : va_W := [(o, .inr (6, [.ref (ad 1), .ref (ad 6), .ref (ad 7), .ref (ad 8), .ref (ad 9), .int 0, .ref (ad 10), .ref (ad 14)])), (ad 1, .inl (T 4, 4, qa (stf ad))), (ad 6, .inr (0, [.int 0, .ref ea, .int 0])), (ad 7, .inr (0, [.int 0, .ref ea, .int 0])), (ad 8, .inr (0, [.int 0, .ref ea, .int 0])), (ad 9, .inl (T 0, 20, .inl fun _ => 0)), (ad 10, .inr (3, [.ref (ad 11), .ref (ad 12), .ref (ad 13)])), (ad 11, .inl (T 0, 256, .inl fun _ => 0)), (ad 12, .inl (T 0, 256, .inl fun _ => 0)), (ad 13, .inl (T 0, 256, .inl fun _ => 0)), (ad 14, .inr (4, [.ref (ad 15), .int 0, .int 200])), (ad 15, .inl (T 0, 12, .inl fun _ => 0)), (ad 2, .inr (5, [.int 3, .int 60, .int 4])), (ad 3, .inr (5, [.int 3, .int 60, .int 4])), (ad 4, .inr (5, [.int 3, .int 60, .int 4])), (ad 5, .inr (5, [.int 3, .int 60, .int 4]))]
def zl_J0 : List Nat := [0, 1, 6, 7, 8, 9, 10, 11, 12, 13, 14, 15, 2, 3, 4, 5]
def zl_N0 : Nat → Nat := fun _ => 0
def zl_r0 : Nat → Nat → Int32 := fun j => match j with
  | 2 => fun k => match k with | 0 => 3 | 1 => 60 | _ => 4
  | 3 => fun k => match k with | 0 => 3 | 1 => 60 | _ => 4
  | 4 => fun k => match k with | 0 => 3 | 1 => 60 | _ => 4
  | 5 => fun k => match k with | 0 => 3 | 1 => 60 | _ => 4
  | 14 => fun k => match k with | 0 => 0 | _ => 200
  | _ => fun _ => 0
def zl_a0 (o : Nat) (ad : Nat → Nat) : Nat → Nat := fun j => match j with
  | 0 => o
  | j => ad j
theorem zl_5e (o ea : Nat) (T : Nat → ClassId) (ad : Nat → Nat) : zl_5 o ea T ad = iw zl_J0 (zl_a0 o ad) (hG (zl_a0 o ad) T ea nof zl_N0 zl_N0 zl_N0 zl_r0) := rfl
theorem zl_Inv0 : Inv 0 zl_J0 zl_N0 zl_N0 zl_N0 zl_r0 (fun _ => 0) (fun _ => 0) := by
  refine ⟨⟨by decide, fun j => ?_, by decide, by decide, by decide⟩, fun s hs => ?_, fun m hm => absurd hm (Nat.not_lt_zero m), ⟨by decide, by decide +kernel⟩, fun d hd => absurd hd (Nat.not_lt_zero d), ⟨by decide, by decide +kernel, ⟨200, by decide, by decide, by decide +kernel⟩, fun k hk => absurd hk (Nat.not_lt_zero k), fun a b _ hb => absurd hb (Nat.not_lt_zero b)⟩, fun i hi => absurd hi (Nat.not_lt_zero i), fun i _ _ => rfl⟩
  · have n0 : zl_N0 0 = 0 := rfl
    have n1 : zl_N0 1 = 0 := rfl
    have n2 : zl_N0 2 = 0 := rfl
    unfold liv zl_J0
    simp only [List.mem_cons, List.not_mem_nil, or_false]
    omega
  · have e : s = 0 ∨ s = 1 ∨ s = 2 ∨ s = 3 := by omega
    rcases e with rfl | rfl | rfl | rfl <;> exact ⟨⟨3, by decide, by decide, by decide +kernel⟩, ⟨60, by decide, by decide, by decide +kernel⟩, ⟨4, by decide, by decide, by decide +kernel⟩⟩
theorem zl_GR0 : GRc zl_N0 (fun _ => 0) := ⟨rfl, rfl, rfl, rfl, rfl⟩
theorem zl_first {D : va_G} {A : Nat → Prop} {H0 H : Heap} {locs : List Loc} {o ea : Nat} {T : Nat → ClassId} {ad av : Nat → Nat} {f0 f1 f2 f3 f4 : Nat → Int32} (M : zM D A H0 ((((((zl_5 o ea T ad ++ [(av 0, .inl (T 0, 6, .inl f0))]) ++ [(av 1, .inl (T 0, 12, .inl f1))]) ++ [(av 2, .inl (T 0, 12, .inl f2))]) ++ [(av 3, .inl (T 0, 12, .inl f3))]) ++ [(av 4, .inl (T 0, 20, .inl f4))])) H locs) :
    zM D A H0 (lwR T av f0 f1 f2 f3 f4 ++ iw zl_J0 (zl_a0 o ad) (hG (zl_a0 o ad) T ea nof zl_N0 zl_N0 zl_N0 zl_r0)) H locs := by
  rw [zl_5e o ea T ad] at M
  generalize iw zl_J0 (zl_a0 o ad) (hG (zl_a0 o ad) T ea nof zl_N0 zl_N0 zl_N0 zl_r0) = m at M ⊢
  have e : (((((m ++ [(av 0, .inl (T 0, 6, .inl f0))]) ++ [(av 1, .inl (T 0, 12, .inl f1))]) ++ [(av 2, .inl (T 0, 12, .inl f2))]) ++ [(av 3, .inl (T 0, 12, .inl f3))]) ++ [(av 4, .inl (T 0, 20, .inl f4))] : va_W) = m ++ lwR T av f0 f1 f2 f3 f4 := by
    simp only [List.append_assoc]
    rfl
  rw [e] at M
  exact zM_perm List.perm_append_comm M
