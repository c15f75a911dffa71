/-! ===== cells by their numbers: calls at numbers ===== -/
def iw (J : List Nat) (ad : Nat → Nat) (G : Nat → va_E) : va_W := J.map (fun j => (ad j, G j))
theorem iw_get {J : List Nat} {ad : Nat → Nat} {G : Nat → va_E} {k j : Nat} (h : J[k]? = some j) : (iw J ad G)[k]? = some (ad j, G j) := by
  unfold iw
  rw [List.getElem?_map, h]
  rfl
theorem nd_of {is : List Nat} (h : is.Nodup) : va_nd is = true := by
  induction is with
  | nil => rfl
  | cons i is ih =>
    have h1 := List.nodup_cons.mp h
    unfold va_nd
    rw [ih h1.2]
    simp [h1.1]
theorem idx_at {j : Nat} : ∀ {J : List Nat}, j ∈ J → J[J.idxOf j]? = some j
  | [], h => absurd h List.not_mem_nil
  | b :: J, h => by
    rw [List.idxOf_cons]
    by_cases e : b = j
    · subst e
      simp
    · have h2 : j ∈ J := (List.mem_cons.mp h).elim (fun q => absurd q.symm e) id
      have h3 : (b == j) = false := by simp [e]
      rw [h3]
      show (b :: J)[J.idxOf j + 1]? = some j
      rw [List.getElem?_cons_succ]
      exact idx_at h2
theorem nd_at {J : List Nat} (h : J.Nodup) {a b x : Nat} (ha : J[a]? = some x) (hb : J[b]? = some x) : a = b := va_nd_inj J (nd_of h) a b x ha hb
theorem nd_map (f : Nat → Nat) : ∀ (l : List Nat), va_nd l = true → (∀ a ∈ l, ∀ b ∈ l, f a = f b → a = b) → va_nd (l.map f) = true
  | [], _, _ => rfl
  | x :: l, hn, hi => by
    have h1 : decide (x ∉ l) = true ∧ va_nd l = true := by
      have h9 := hn
      unfold va_nd at h9
      exact (Bool.and_eq_true _ _).mp h9 |> fun h => h
    rw [List.map_cons]
    unfold va_nd
    rw [nd_map f l h1.2 (fun a ha b hb => hi a (List.mem_cons_of_mem _ ha) b (List.mem_cons_of_mem _ hb)), Bool.and_true]
    refine decide_eq_true (fun h => ?_)
    obtain ⟨y, hy, e⟩ := List.mem_map.mp h
    have e2 := hi y (List.mem_cons_of_mem _ hy) x List.mem_cons_self e
    subst e2
    exact absurd hy (of_decide_eq_true h1.1)
theorem iw_set {J : List Nat} {ad : Nat → Nat} {G : Nat → va_E} (hJ : J.Nodup) {j : Nat} (hj : j ∈ J) (x : va_E) : (iw J ad G).set (J.idxOf j) (ad j, x) = iw J ad (fun k => if k = j then x else G k) := by
  apply List.ext_getElem?
  intro k
  have hlt : J.idxOf j < J.length := List.idxOf_lt_length_of_mem hj
  have hat : J[J.idxOf j]? = some j := idx_at hj
  have hlen : (iw J ad G).length = J.length := by unfold iw; rw [List.length_map]
  by_cases hk : k = J.idxOf j
  · rw [hk, List.getElem?_set_self (by rw [hlen]; exact hlt), iw_get hat, if_pos rfl]
  · rw [List.getElem?_set_ne (Ne.symm hk)]
    cases h : J[k]? with
    | none =>
      unfold iw
      rw [List.getElem?_map, List.getElem?_map, h]
      rfl
    | some i =>
      rw [iw_get h, iw_get h]
      have hne : ¬ i = j := by
        intro e
        rw [e] at h
        exact hk (nd_at hJ h hat)
      rw [if_neg hne]
theorem iw_put (pre : va_W) {J : List Nat} (hJ : J.Nodup) (ad : Nat → Nat) (G' : Nat → va_E) (tl : va_W) : ∀ (js : List Nat) (G : Nat → va_E), (∀ j ∈ js, j ∈ J) → (∀ j, j ∈ J → j ∉ js → G' j = G j) →
    z_put (pre ++ iw J ad G) (js.map (fun j => pre.length + J.idxOf j)) (iw js ad G' ++ tl) = (pre ++ iw J ad G') ++ tl
  | [], G, _, hag => by
    have e : iw J ad G = iw J ad G' := by
      unfold iw
      exact List.map_congr_left (fun j hj => by rw [hag j hj List.not_mem_nil])
    rw [e]
    show z_put _ [] ([] ++ tl) = _
    rw [z_put, List.nil_append]
  | j :: js, G, hsub, hag => by
    have hj := hsub j List.mem_cons_self
    show z_put (pre ++ iw J ad G) ((pre.length + J.idxOf j) :: js.map (fun j => pre.length + J.idxOf j)) ((ad j, G' j) :: (iw js ad G' ++ tl)) = _
    rw [z_put, List.set_append_right _ _ (Nat.le_add_right _ _), Nat.add_sub_cancel_left, iw_set hJ hj]
    refine iw_put pre hJ ad G' tl js _ (fun k hk => hsub k (List.mem_cons_of_mem _ hk)) (fun k hk hn => ?_)
    by_cases e : k = j
    · rw [if_pos e, e]
    · rw [if_neg e]
      exact hag k hk (fun h => (List.mem_cons.mp h).elim e hn)
theorem iw_places (pre : va_W) {J js : List Nat} (hJ : J.Nodup) (hjs : js.Nodup) (hsub : ∀ j ∈ js, j ∈ J) (ad : Nat → Nat) (G : Nat → va_E) :
    ∃ is : List Nat, is.map (fun i => (pre ++ iw J ad G)[i]?) = (iw js ad G).map some ∧ va_nd is = true ∧ ∀ (G' : Nat → va_E) (tl : va_W), (∀ j, j ∈ J → j ∉ js → G' j = G j) → z_put (pre ++ iw J ad G) is (iw js ad G' ++ tl) = (pre ++ iw J ad G') ++ tl := by
  refine ⟨js.map (fun j => pre.length + J.idxOf j), ?_, ?_, fun G' tl hag => iw_put pre hJ ad G' tl js G hsub hag⟩
  · unfold iw
    rw [List.map_map, List.map_map]
    refine List.map_congr_left (fun j hj => ?_)
    show (pre ++ iw J ad G)[pre.length + J.idxOf j]? = some (ad j, G j)
    rw [List.getElem?_append_right (Nat.le_add_right _ _), Nat.add_sub_cancel_left]
    exact iw_get (idx_at (hsub j hj))
  · refine nd_map _ js (nd_of hjs) (fun a ha b hb e => ?_)
    have e2 : J.idxOf a = J.idxOf b := by omega
    have ha2 := idx_at (hsub a ha)
    have hb2 := idx_at (hsub b hb)
    rw [e2, hb2] at ha2
    exact (Option.some.inj ha2).symm
theorem mid_put (pre post : va_W) : ∀ (wc w1 : va_W) (k : Nat) (a b tl : va_W), a.length = k → w1.length = wc.length →
    z_put (pre ++ (a ++ wc) ++ post) ((List.range wc.length).map (fun i => pre.length + k + i)) (w1 ++ tl) = pre ++ (a ++ w1) ++ post ++ tl
  | [], w1, k, a, b, tl, _, h => by
    have e : w1 = [] := List.eq_nil_of_length_eq_zero h
    subst e
    show z_put _ [] _ = _
    rw [z_put, List.nil_append]
  | q :: wc, [], k, a, b, tl, _, h => by cases h
  | q :: wc, x :: w1, k, a, b, tl, hk, h => by
    have e : (List.range (q :: wc).length).map (fun i => pre.length + k + i) = (pre.length + k) :: (List.range wc.length).map (fun i => pre.length + (k + 1) + i) := by
      rw [List.length_cons, List.range_succ_eq_map, List.map_cons, List.map_map]
      congr 1
      refine List.map_congr_left (fun i _ => ?_)
      show pre.length + k + (i + 1) = _
      omega
    rw [e]
    show z_put _ _ (x :: (w1 ++ tl)) = _
    rw [z_put]
    have e2 : (pre ++ (a ++ q :: wc) ++ post).set (pre.length + k) x = pre ++ ((a ++ [x]) ++ wc) ++ post := by
      rw [List.append_assoc, List.set_append_right _ _ (by omega), show pre.length + k - pre.length = a.length by omega, List.append_assoc, List.set_append_right _ _ (Nat.le_refl _), Nat.sub_self]
      simp
    rw [e2, mid_put pre post wc w1 (k + 1) (a ++ [x]) b tl (by simp [hk]) (by simpa using h)]
    simp
theorem mid_places (pre wc post : va_W) : ∃ is : List Nat, is.map (fun i => (pre ++ wc ++ post)[i]?) = wc.map some ∧ va_nd is = true ∧ ∀ (w1 tl : va_W), w1.length = wc.length → z_put (pre ++ wc ++ post) is (w1 ++ tl) = pre ++ w1 ++ post ++ tl := by
  refine ⟨(List.range wc.length).map (fun i => pre.length + 0 + i), ?_, ?_, fun w1 tl h => mid_put pre post wc w1 0 [] [] tl rfl h⟩
  · apply List.ext_getElem?
    intro k
    rw [List.map_map, List.getElem?_map, List.getElem?_map]
    by_cases hk : k < wc.length
    · rw [List.getElem?_range hk]
      show some ((pre ++ wc ++ post)[pre.length + 0 + k]?) = _
      rw [List.append_assoc, List.getElem?_append_right (by omega), show pre.length + 0 + k - pre.length = k by omega, List.getElem?_append_left hk, List.getElem?_eq_getElem hk]
      rfl
    · rw [List.getElem?_eq_none (by simpa using hk), List.getElem?_eq_none (by omega)]
      rfl
  · exact nd_map _ _ (nd_of List.nodup_range) (fun a _ b _ e => by omega)
/-- cells picked out, in any order -/
theorem zM_pick {D : va_G} {A : Nat → Prop} {H0 H : Heap} {ws w2 : va_W} {locs : List Loc} (M : zM D A H0 ws H locs) (is : List Nat) (hn : va_nd is = true) (h : is.map (fun i => ws[i]?) = w2.map some) : zM D A H0 w2 H locs := by
  obtain ⟨hP, hD, hS⟩ := M
  refine ⟨fun k q hq => ?_, ⟨fun i j x y hx hy hxy => ?_, fun k q hq => ?_⟩, hS⟩
  · obtain ⟨i, -, h2⟩ := z_in h hq
    exact hP i q h2
  · obtain ⟨a, h1, h2⟩ := z_in h hx
    obtain ⟨b, g1, g2⟩ := z_in h hy
    have e := hD.1 a b x y h2 g2 hxy
    subst e
    exact va_nd_inj is hn i j a h1 g1
  · obtain ⟨i, -, h2⟩ := z_in h hq
    exact hD.2 i q h2
theorem va_D_nd {A : Nat → Prop} {ws : va_W} : va_D A ws ↔ (ws.map Prod.fst).Nodup ∧ ∀ q ∈ ws, A q.1 := by
  constructor
  · rintro ⟨h1, h2⟩
    refine ⟨?_, fun q hq => ?_⟩
    · refine List.pairwise_iff_getElem.mpr (fun i j hi hj hij e => ?_)
      rw [List.length_map] at hi hj
      rw [List.getElem_map, List.getElem_map] at e
      have := h1 i j ws[i] ws[j] (List.getElem?_eq_getElem hi) (List.getElem?_eq_getElem hj) e
      omega
    · obtain ⟨k, hk⟩ := List.getElem?_of_mem hq
      exact h2 k q hk
  · rintro ⟨h1, h2⟩
    refine ⟨fun i j p q hp hq e => ?_, fun k q hq => h2 q (List.mem_of_getElem? hq)⟩
    have n1 := va_nd_inj (ws.map Prod.fst) (nd_of h1) i j p.1
    exact n1 (by rw [List.getElem?_map, hp]; rfl) (by rw [List.getElem?_map, hq, e]; rfl)
/-- the order of the cells doesn't matter -/
theorem zM_perm {D : va_G} {A : Nat → Prop} {H0 H : Heap} {ws w2 : va_W} {locs : List Loc} (h : List.Perm ws w2) (M : zM D A H0 ws H locs) : zM D A H0 w2 H locs := by
  obtain ⟨hP, hD, hS⟩ := M
  obtain ⟨d1, d2⟩ := va_D_nd.mp hD
  refine ⟨fun k q hq => ?_, va_D_nd.mpr ⟨(h.map Prod.fst).nodup_iff.mp d1, fun q hq => d2 q (h.mem_iff.mpr hq)⟩, hS⟩
  obtain ⟨i, hi⟩ := List.getElem?_of_mem (h.mem_iff.mpr (List.mem_of_getElem? hq))
  exact hP i q hi
/-- cells that are no longer asked -/
theorem zM_drop {D : va_G} {A : Nat → Prop} {H0 H : Heap} {ws w2 : va_W} {locs : List Loc} (M : zM D A H0 (ws ++ w2) H locs) : zM D A H0 ws H locs := by
  obtain ⟨hP, hD, hS⟩ := M
  obtain ⟨d1, d2⟩ := va_D_nd.mp hD
  refine ⟨fun k q hq => ?_, va_D_nd.mpr ⟨?_, fun q hq => d2 q (List.mem_append_left _ hq)⟩, hS⟩
  · obtain ⟨i, hi⟩ := List.getElem?_of_mem (List.mem_append_left w2 (List.mem_of_getElem? hq))
    exact hP i q hi
  · rw [List.map_append] at d1
    exact (List.nodup_append.mp d1).1
