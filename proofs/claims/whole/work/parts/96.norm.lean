/-! ===== behind a call: the world by number again, what is no longer asked let go ===== -/
theorem z_norm {D : va_G} {A : Nat → Prop} {H0 H : Heap} {locs : List Loc} {w0 wc : va_W} {q : Nat × va_E} {J : List Nat} {ad : Nat → Nat} {G : Nat → va_E} (hp : ∃ gb : va_W, List.Perm wc (iw J ad G ++ gb)) (M : zM D A H0 (w0 ++ (q :: wc)) H locs) : zM D A H0 (w0 ++ (q :: iw J ad G)) H locs := by
  obtain ⟨gb, h⟩ := hp
  have h2 : List.Perm (w0 ++ (q :: wc)) ((w0 ++ (q :: iw J ad G)) ++ gb) := by
    rw [List.append_assoc]
    exact List.Perm.append_left w0 (List.Perm.cons q h)
  exact zM_drop (zM_perm h2 M)
