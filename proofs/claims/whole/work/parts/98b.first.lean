/-! ===== the first state ===== -/
def zl_5 (o ea : Nat) (T : Nat → ClassId) (ad : Nat → Nat) : va_W := [(o, .inr (6, [.ref (ad 1), .ref (ad 6), .ref (ad 7), .ref (ad 8), .ref (ad 9), .int 0, .ref (ad 10), .ref (ad 14)])), (ad 1, .inl (T 4, 4, qa (stf ad))), (ad 6, .inr (0, [.int 0, .ref ea, .int 0])), (ad 7, .inr (0, [.int 0, .ref ea, .int 0])), (ad 8, .inr (0, [.int 0, .ref ea, .int 0])), (ad 9, .inl (T 0, 20, .inl fun _ => 0)), (ad 10, .inr (3, [.ref (ad 11), .ref (ad 12), .ref (ad 13)])), (ad 11, .inl (T 0, 256, .inl fun _ => 0)), (ad 12, .inl (T 0, 256, .inl fun _ => 0)), (ad 13, .inl (T 0, 256, .inl fun _ => 0)), (ad 14, .inr (4, [.ref (ad 15), .int 0, .int 200])), (ad 15, .inl (T 0, 12, .inl fun _ => 0)), (ad 2, .inr (5, [.int 3, .int 60, .int 4])), (ad 3, .inr (5, [.int 3, .int 60, .int 4])), (ad 4, .inr (5, [.int 3, .int 60, .int 4])), (ad 5, .inr (5, [.int 3, .int 60, .int 4]))]
def zl_J0 : List Nat := [0, 1, 6, 7, 8, 9, 10, 11, 12, 13, 14, 15, 2, 3, 4, 5]
def zl_N0 : Nat → Nat := fun _ => 0
def zl_r0 : Nat → Nat → Int32 := fun j => match j with
  | 2 => fun k => match k with | 0 => 3 | 1 => 60 | _ => 4
  | 3 => fun k => match k with | 0 => 3 | 1 => 60 | _ => 4
  | 4 => fun k => match k with | 0 => 3 | 1 => 60 | _ => 4
  | 5 => fun k => match k with | 0 => 3 | 1 => 60 | _ => 4
  | 14 => fun k => match k with | 0 => 0 | _ => 200
  | _ => fun _ => 0
def zl_a0 (o out : Nat) (ad : Nat → Nat) : Nat → Nat := fun j => match j with
  | 0 => o
  | 16 => out
  | j => ad j
theorem zl_5e (o out ea : Nat) (T : Nat → ClassId) (ad : Nat → Nat) (f : Nat → Int64) : zl_5 o ea T ad = iw zl_J0 (zl_a0 o out ad) (hG (zl_a0 o out ad) T ea f zl_N0 zl_N0 zl_N0 zl_r0) := rfl
theorem zl_Inv0 : Inv 0 zl_J0 zl_N0 zl_N0 zl_N0 zl_r0 σ00 := by
  refine ⟨?_, ?_, ?_, ?_, ?_, ?_, ?_, ?_⟩
  · refine ⟨by decide, fun j => ?_, by decide, by decide, by decide, by decide +kernel, by decide +kernel, by decide +kernel⟩
    have n0 : zl_N0 0 = 0 := rfl
    have n1 : zl_N0 1 = 0 := rfl
    have n2 : zl_N0 2 = 0 := rfl
    unfold liv zl_J0
    simp only [List.mem_cons, List.not_mem_nil, or_false]
    omega
  · intro s hs
    have e : s = 0 ∨ s = 1 ∨ s = 2 ∨ s = 3 := by omega
    rcases e with rfl | rfl | rfl | rfl <;> decide +kernel
  · intro m hm
    exact absurd hm (Nat.not_lt_zero m)
  · refine ⟨by decide, by decide +kernel, by decide +kernel, fun ld _ m _ => ⟨fun _ => rfl, fun _ => ?_⟩⟩
    show (0 : Int32) &&& _ = 0
    exact Int32.zero_and
  · intro i _ _
    exact ⟨rfl, rfl, rfl, rfl, rfl, rfl, fun _ _ => rfl⟩
  · intro d hd
    exact absurd hd (Nat.not_lt_zero d)
  · exact ⟨by decide, by decide +kernel, by decide +kernel, ⟨by decide +kernel, 200, by decide, by decide, by decide +kernel⟩, fun k hk => absurd hk (Nat.not_lt_zero k), fun a b _ hb => absurd hb (Nat.not_lt_zero b)⟩
  · intro i hi
    exact absurd hi (Nat.not_lt_zero i)
theorem zl_first {D : va_G} {A : Nat → Prop} {H0 H : Heap} {locs : List Loc} {o om out ea : Nat} {T : Nat → ClassId} {ad am : Nat → Nat} {f : Nat → Int64} (M : zM D A H0 ((zl_5 o ea T ad ++ mW om am T σ00) ++ [ouW out T f]) H locs) :
    zM D A H0 (mW om am T σ00 ++ Wk zl_J0 (zl_a0 o out ad) T ea f zl_N0 zl_N0 zl_N0 zl_r0) H locs := by
  obtain ⟨m, hm⟩ : ∃ m : va_W, m = mW om am T σ00 := ⟨_, rfl⟩
  rw [← hm] at M ⊢
  have h1 : List.Perm (zl_5 o ea T ad ++ m) (m ++ zl_5 o ea T ad) := List.perm_append_comm
  have h2 : List.Perm (zl_5 o ea T ad ++ [ouW out T f]) ([ouW out T f] ++ zl_5 o ea T ad) := List.perm_append_comm
  have h3 : List.Perm ((zl_5 o ea T ad ++ m) ++ [ouW out T f]) (m ++ ([ouW out T f] ++ zl_5 o ea T ad)) := by
    refine (List.Perm.append_right _ h1).trans ?_
    rw [List.append_assoc]
    exact List.Perm.append_left _ h2
  have M2 := zM_perm h3 M
  rw [zl_5e o out ea T ad f] at M2
  exact M2
section ZLN
variable {p : Program} {l : Launch} {e : Env} {R : Room} {s : State} {m : MethodId} {args : Array Value} {below : List Frame} {meth : Method} {c : Code} {H : Heap} {locs : List Loc} {cells slots : Nat} {Q : State → Prop}
variable {cc : ByteArray} {nL : Nat} {own : String} {Ts : List Cond} {D : va_G} {T : Nat → ClassId} {A : Nat → Prop} {ws : va_W} {pc : Nat} {ls : Array Slot} {rest : List Value}
/-- a new array of longs -/
theorem z_newl (Z : zC p s m args c cc nL own Ts D T A) (M : zM D A s.heap ws H locs) {k : Int32} {N : Nat} (harr : (Cond.arrayClass .long).before args s = true) (hn : ¬ k < 0) (hN : k.toNatClampNeg = N) (hbytes : N * componentBytes .long ≤ 536870912) (hcells : cells + 1 ≤ R.cells) (hslots : slots + N ≤ R.slots) (hdg : decode cc pc = .ok (.newarray .long, 2))
    (kk : ∀ (q : Nat) (H1 : Heap), zM D A s.heap (ws ++ [(q, .inl (T 2, N, .inr (.inl fun _ => 0)))]) H1 locs → W p l e R s m args below meth c H1 locs (cells + 1) (slots + N) Q (F0 m (pc + 2) ls (.ref q :: rest))) : W p l e R s m args below meth c H locs cells slots Q (F0 m pc ls (.int k :: rest)) := by
  obtain ⟨⟨hx, hb, hml, hown, hts⟩, hK, hA⟩ := Z
  obtain ⟨hP, hD, hS⟩ := M
  refine va_newa (atype := .long) (ty := .long) (a0 := (N, .inr (.inl fun _ => 0))) hx hb harr rfl hK hP hD hS hA (fun cA => vp_cell_l cA N fun _ => 0) hn hN hbytes hcells hslots hdg (fun q cA H1 hK1 hP1 hD1 hS1 => ?_)
  have h1 : s.vm.findClass ("[" ++ FieldType.long.toString) = some cA := (hK1.2 5 (cA, .long) rfl).2
  have h2 : s.vm.findClass ("[" ++ FieldType.long.toString) = some (T 2) := (hK.2 2 (T 2, .long) rfl).2
  have e : cA = T 2 := Option.some.inj (h1.symm.trans h2)
  subst e
  exact kk q H1 ⟨hP1, hD1, hS1⟩
end ZLN
