theorem fb_holes : ∀ (m n : Nat) (f : Nat → Nat), (∀ i, i < n → f i < m) → (∀ i j, i < j → j < n → f i ≠ f j) → n ≤ m := by
  intro m
  induction m with
  | zero =>
    intro n f h1 _
    rcases Nat.eq_zero_or_pos n with h | h
    · omega
    · exact absurd (h1 0 h) (Nat.not_lt_zero _)
  | succ m ih =>
    intro n f h1 h2
    by_cases hx : ∃ i, i < n ∧ f i = m
    · obtain ⟨a, ha, hfa⟩ := hx
      have hg := ih (n - 1) (fun i => if i < a then f i else f (i + 1)) (by
        intro i hi
        by_cases q : i < a
        · simp only [if_pos q]
          have b1 := h1 i (by omega)
          have b2 := h2 i a q ha
          omega
        · simp only [if_neg q]
          have b1 := h1 (i + 1) (by omega)
          have b2 := h2 a (i + 1) (by omega) (by omega)
          omega) (by
        intro i j hij hj
        by_cases q : i < a
        · by_cases r : j < a
          · simp only [if_pos q, if_pos r]
            exact h2 i j hij (by omega)
          · simp only [if_pos q, if_neg r]
            exact h2 i (j + 1) (by omega) (by omega)
        · have r : ¬ j < a := by omega
          simp only [if_neg q, if_neg r]
          exact h2 (i + 1) (j + 1) (by omega) (by omega))
      omega
    · have hg := ih n f (fun i hi => by
        have b1 := h1 i hi
        have b2 : f i ≠ m := fun e => hx ⟨i, hi, e⟩
        omega) h2
      omega
def fi0 (f : Nat → Int32) (v : Int32) : Nat → (Nat → Int32)
  | 0 => f
  | n + 1 => upd (fi0 f v n) n v
theorem fi0_lt (f : Nat → Int32) (v : Int32) {y : Nat} : ∀ n, y < n → fi0 f v n y = v
  | 0, h => absurd h (Nat.not_lt_zero _)
  | n + 1, h => by
    rw [fi0]
    by_cases e : y = n
    · subst e
      exact upd_same _ _ _
    · rw [upd_ne _ _ e]
      exact fi0_lt f v n (by omega)
/-- the search: how far each pattern is, the patterns in the order in which they are found, how many are found -/
abbrev bT : Type := (Nat → Int32) × (Nat → Int32) × Nat
def bf1 (S : bT) (x a : Nat) : bT := if S.1 (actN x a) = -1 then (upd S.1 (actN x a) (S.1 x + 1), upd S.2.1 S.2.2 (nI (actN x a)), S.2.2 + 1) else S
def bfA (S : bT) (x : Nat) : Nat → bT
  | 0 => S
  | a + 1 => bf1 (bfA S x a) x a
def bfR : Nat → Nat → bT → bT
  | 0, _, S => S
  | n + 1, k, S => if k < S.2.2 then bfR n (k + 1) (bfA S (S.2.1 k).toNatClampNeg 3) else S
def bW (S : bT) : Prop := (∀ j, j < S.2.2 → ∃ x, x < 256 ∧ S.2.1 j = nI x ∧ ¬ S.1 x = -1) ∧ (∀ i j, i < j → j < S.2.2 → S.2.1 i ≠ S.2.1 j) ∧ (∀ y, y < 256 → S.1 y = -1 ∨ ∃ d, d < S.2.2 ∧ S.1 y = nI d)
theorem bW_le {S : bT} (h : bW S) : S.2.2 ≤ 256 := by
  refine fb_holes 256 S.2.2 (fun j => (S.2.1 j).toNatClampNeg) (fun j hj => ?_) (fun i j hij hj e => ?_)
  · obtain ⟨x, hx, e, -⟩ := h.1 j hj
    show (S.2.1 j).toNatClampNeg < 256
    rw [e, nI_clamp (by omega)]
    exact hx
  · obtain ⟨x, hx, ex, -⟩ := h.1 i (by omega)
    obtain ⟨y, hy, ey, -⟩ := h.1 j hj
    have e : (S.2.1 i).toNatClampNeg = (S.2.1 j).toNatClampNeg := e
    rw [ex, ey, nI_clamp (by omega), nI_clamp (by omega)] at e
    subst e
    exact h.2.1 i j hij hj (ex.trans ey.symm)
theorem bW_1 {S : bT} (h : bW S) {x a k : Nat} (hk : k < S.2.2) (hx : x < 256) (hQ : S.2.1 k = nI x) (ha : a < 3) : bW (bf1 S x a) ∧ (bf1 S x a).2.1 k = nI x ∧ S.2.2 ≤ (bf1 S x a).2.2 ∧ (S.1 (actN x a) = -1 → S.2.2 < 256) := by
  have hn := (actN_ok x hx a ha).2
  have hle := bW_le h
  unfold bf1
  by_cases c : S.1 (actN x a) = -1
  · rw [if_pos c]
    have new : ∀ j, j < S.2.2 → S.2.1 j ≠ nI (actN x a) := by
      intro j hj e
      obtain ⟨y, hy, ey, hf⟩ := h.1 j hj
      rw [ey] at e
      have := (nI_eq (by omega) (by omega)).mp e
      subst this
      exact hf c
    obtain ⟨x', hx', ex', hfx⟩ := h.1 k hk
    have exx : x = x' := (nI_eq (by omega) (by omega)).mp (hQ.symm.trans ex')
    subst exx
    obtain ⟨d, hd, ed⟩ := (h.2.2 x hx).resolve_left hfx
    have ed1 : S.1 x + 1 = nI (d + 1) := by rw [ed, nI_1]
    have hW : bW (upd S.1 (actN x a) (S.1 x + 1), upd S.2.1 S.2.2 (nI (actN x a)), S.2.2 + 1) := by
      refine ⟨fun j hj => ?_, fun i j hij hj => ?_, fun y hy => ?_⟩
      · by_cases e : j = S.2.2
        · subst e
          refine ⟨actN x a, hn, upd_same _ _ _, ?_⟩
          show ¬ upd S.1 (actN x a) (S.1 x + 1) (actN x a) = -1
          rw [upd_same, ed1]
          exact nI_nm1 (by omega)
        · have hj : j < S.2.2 + 1 := hj
          obtain ⟨y, hy, ey, hf⟩ := h.1 j (by omega)
          refine ⟨y, hy, (upd_ne _ _ e).trans ey, ?_⟩
          show ¬ upd S.1 (actN x a) (S.1 x + 1) y = -1
          by_cases e2 : y = actN x a
          · rw [e2, upd_same, ed1]
            exact nI_nm1 (by omega)
          · rw [upd_ne _ _ e2]
            exact hf
      · have hj : j < S.2.2 + 1 := hj
        show upd S.2.1 S.2.2 (nI (actN x a)) i ≠ upd S.2.1 S.2.2 (nI (actN x a)) j
        rw [upd_ne _ _ (show i ≠ S.2.2 by omega)]
        by_cases e : j = S.2.2
        · rw [e, upd_same]
          exact new i (by omega)
        · rw [upd_ne _ _ e]
          exact h.2.1 i j hij (by omega)
      · show upd S.1 (actN x a) (S.1 x + 1) y = -1 ∨ ∃ d, d < S.2.2 + 1 ∧ upd S.1 (actN x a) (S.1 x + 1) y = nI d
        by_cases e : y = actN x a
        · rw [e, upd_same, ed1]
          exact Or.inr ⟨d + 1, by omega, rfl⟩
        · rw [upd_ne _ _ e]
          rcases h.2.2 y hy with q | ⟨d9, hd9, e9⟩
          · exact Or.inl q
          · exact Or.inr ⟨d9, by omega, e9⟩
    have h257 := bW_le hW
    have h257 : S.2.2 + 1 ≤ 256 := h257
    exact ⟨hW, (upd_ne _ _ (show k ≠ S.2.2 by omega)).trans hQ, Nat.le_succ _, fun _ => by omega⟩
  · rw [if_neg c]
    exact ⟨h, hQ, Nat.le_refl _, fun q => absurd q c⟩
theorem bW_A {S : bT} (h : bW S) {x k : Nat} (hk : k < S.2.2) (hx : x < 256) (hQ : S.2.1 k = nI x) : ∀ a, a ≤ 3 → bW (bfA S x a) ∧ (bfA S x a).2.1 k = nI x ∧ S.2.2 ≤ (bfA S x a).2.2
  | 0, _ => ⟨h, hQ, Nat.le_refl _⟩
  | a + 1, ha => by
    obtain ⟨h1, h2, h3⟩ := bW_A h hk hx hQ a (by omega)
    obtain ⟨g1, g2, g3, -⟩ := bW_1 h1 (by omega) hx h2 (a := a) (by omega)
    rw [bfA]
    exact ⟨g1, g2, by omega⟩
theorem bW_0 (F0 Q0 : Nat → Int32) {p : Nat} (hp : p < 256) : bW (upd (fi0 F0 (-1) 256) p 0, upd Q0 0 (nI p), 1) := by
  refine ⟨fun j hj => ?_, fun i j hij hj => ?_, fun y hy => ?_⟩
  · have hj : j < 1 := hj
    have e : j = 0 := by omega
    subst e
    refine ⟨p, hp, (show upd Q0 0 (nI p) 0 = nI p from upd_same _ _ _), ?_⟩
    show ¬ upd (fi0 F0 (-1) 256) p 0 p = -1
    rw [upd_same]
    decide
  · have hj : j < 1 := hj
    omega
  · show upd (fi0 F0 (-1) 256) p 0 y = -1 ∨ ∃ d, d < 1 ∧ upd (fi0 F0 (-1) 256) p 0 y = nI d
    by_cases e : y = p
    · rw [e, upd_same]
      exact Or.inr ⟨0, by omega, nI_0.symm⟩
    · rw [upd_ne _ _ e]
      exact Or.inl (fi0_lt F0 (-1) 256 hy)
theorem BF_ex : ∃ F : (Nat → Int32) → (Nat → Int32) → Nat → bT, ∀ F0 Q0 p, F F0 Q0 p = bfR 257 0 (upd (fi0 F0 (-1) 256) p 0, upd Q0 0 (nI p), 1) := ⟨fun F0 Q0 p => bfR 257 0 (upd (fi0 F0 (-1) 256) p 0, upd Q0 0 (nI p), 1), fun _ _ _ => rfl⟩
noncomputable def BF : (Nat → Int32) → (Nat → Int32) → Nat → bT := Classical.choose BF_ex
theorem BF_eq (F0 Q0 : Nat → Int32) (p : Nat) : BF F0 Q0 p = bfR 257 0 (upd (fi0 F0 (-1) 256) p 0, upd Q0 0 (nI p), 1) := Classical.choose_spec BF_ex F0 Q0 p
theorem AC_N {p a : Nat} (hp : p < 256) (ha : a < 3) : AC (nI p) a = nI (actN p a) := by
  rw [AC_eq]
  exact (actN_ok p hp a ha).1
/-- two searches that agree on what counts -/
def bS (S S' : bT) : Prop := (∀ y, y < 256 → S.1 y = S'.1 y) ∧ (∀ j, j < S.2.2 → S.2.1 j = S'.2.1 j) ∧ S.2.2 = S'.2.2
theorem bS_1 {S S' : bT} (h : bS S S') {x a : Nat} (hx : x < 256) (ha : a < 3) : bS (bf1 S x a) (bf1 S' x a) := by
  obtain ⟨h1, h2, h3⟩ := h
  have hn := (actN_ok x hx a ha).2
  unfold bf1
  rw [← h1 _ hn]
  by_cases c : S.1 (actN x a) = -1
  · rw [if_pos c, if_pos c]
    refine ⟨fun y hy => ?_, fun j hj => ?_, ?_⟩
    · show upd S.1 (actN x a) (S.1 x + 1) y = upd S'.1 (actN x a) (S'.1 x + 1) y
      rw [h1 x hx]
      unfold upd
      split
      · rfl
      · exact h1 y hy
    · have hj : j < S.2.2 + 1 := hj
      show upd S.2.1 S.2.2 (nI (actN x a)) j = upd S'.2.1 S'.2.2 (nI (actN x a)) j
      rw [← h3]
      unfold upd
      split
      · rfl
      · exact h2 j (by omega)
    · show S.2.2 + 1 = S'.2.2 + 1
      rw [h3]
  · rw [if_neg c, if_neg c]
    exact ⟨h1, h2, h3⟩
theorem bS_A {S S' : bT} (h : bS S S') {x : Nat} (hx : x < 256) : ∀ a, a ≤ 3 → bS (bfA S x a) (bfA S' x a)
  | 0, _ => h
  | a + 1, ha => by
    rw [bfA, bfA]
    exact bS_1 (bS_A h hx a (by omega)) hx (by omega)
theorem bS_R : ∀ (n k : Nat) (S S' : bT), bS S S' → bW S → bS (bfR n k S) (bfR n k S')
  | 0, _, _, _, h, _ => h
  | n + 1, k, S, S', h, hW => by
    rw [bfR, bfR]
    obtain ⟨h1, h2, h3⟩ := id h
    by_cases c : k < S.2.2
    · rw [if_pos c, if_pos (h3 ▸ c), ← h2 k c]
      obtain ⟨x, hx, ex, -⟩ := hW.1 k c
      rw [ex, nI_clamp (by omega)]
      exact bS_R n (k + 1) _ _ (bS_A h hx 3 (Nat.le_refl 3)) (bW_A hW c hx ex 3 (Nat.le_refl 3)).1
    · rw [if_neg c, if_neg (h3 ▸ c)]
      exact h
noncomputable def dist (q t : Nat) : Int32 := (BF (fun _ => 0) (fun _ => 0) q).1 t
theorem BF_ind (F0 Q0 : Nat → Int32) {q t : Nat} (hq : q < 256) (ht : t < 256) : (BF F0 Q0 q).1 t = dist q t := by
  unfold dist
  rw [BF_eq, BF_eq]
  have h0 : bS (upd (fi0 F0 (-1) 256) q 0, upd Q0 0 (nI q), 1) (upd (fi0 (fun _ => 0) (-1) 256) q 0, upd (fun _ => 0) 0 (nI q), 1) := by
    refine ⟨fun y hy => ?_, fun j hj => ?_, rfl⟩
    · show upd (fi0 F0 (-1) 256) q 0 y = upd (fi0 (fun _ => 0) (-1) 256) q 0 y
      unfold upd
      split
      · rfl
      · rw [fi0_lt _ _ 256 hy, fi0_lt _ _ 256 hy]
    · have hj : j < 1 := hj
      have e : j = 0 := by omega
      subst e
      show upd Q0 0 (nI q) 0 = upd (fun _ => 0) 0 (nI q) 0
      rw [upd_same, upd_same]
  have K : ∀ n, (bfR n 0 (upd (fi0 F0 (-1) 256) q 0, upd Q0 0 (nI q), 1)).1 t = (bfR n 0 (upd (fi0 (fun _ => 0) (-1) 256) q 0, upd (fun _ => 0) 0 (nI q), 1)).1 t := fun n => (bS_R n 0 _ _ h0 (bW_0 F0 Q0 hq)).1 t ht
  exact K 257
noncomputable def sr (P : (Nat → Int32) × (Nat → Int32)) (q : Nat) : (Nat → Int32) × (Nat → Int32) := ((BF P.1 P.2 q).1, (BF P.1 P.2 q).2.1)
noncomputable def fstA (q t : Nat) : Int32 := if 0 < dist q t then (if dist (actN q 0) t = dist q t - 1 then 0 else if dist (actN q 1) t = dist q t - 1 then 1 else if dist (actN q 2) t = dist q t - 1 then 2 else -1) else -1
/-! methods that leave rows behind of which nothing is said -/
def zQX (D : va_G) (T : Nat → ClassId) {S : Type} (w : va_W) (w' : S → va_W) (rv : Int32) (sz : Nat) : Array Value → State → Outcome → State → Prop := va_Qi (fun r (_ : S) => r = rv) (fun u t => zPost D T (w' u) (zA (w.map Prod.fst) sz) t) (zA (w.map Prod.fst) sz)
def ZX (l : Launch) (y : MethodName) (ws : List Cond) (rm : Room) (D : va_G) (T : Nat → ClassId) {S : Type} (w : va_W) (w' : S → va_W) (as : List Value) (rv : Int32) (mc ms : Nat) : Prop := ∀ sz : Nat, Met l y ws rm (va_Pc as (zPre D T w sz)) (zQX D T w w' rv sz) mc ms (zA (w.map Prod.fst) sz)
theorem z_inX {l : Launch} {y : MethodName} {ws ws' : List Cond} {rm : Room} {D : va_G} {T : Nat → ClassId} {S : Type} {w : va_W} {w' : S → va_W} {as : List Value} {rv : Int32} {mc ms : Nat} {cc : ByteArray} {maxL : Nat} {rt : FieldType}
    (hy : plainName y.cls = true) (hw : ws = Cond.code y cc maxL (some rt) :: ws') (hlen : (lg_sl as).length ≤ maxL)
    (body : ∀ (p : Program) (e : Env) (s : State) (m : MethodId) (args : Array Value) (below : List Frame) (meth : Method) (c : Code) (ls : Array Slot) (A : Nat → Prop) (Q : State → Prop), zC p s m args c cc maxL y.cls ws D T A → meth.name = y.name → zM D A s.heap w s.heap [] → lv_has ls maxL (lv_args 0 as) →
      (∀ (H : Heap) (locs : List Loc) (cells slots pc : Nat) (ls : Array Slot) (v : Int32) (wf : va_W) (u : S), zM D A s.heap wf H locs → wf = w' u → v = rv → narrow rt (.int v) = .int v → cells ≤ mc → slots ≤ ms → decode cc pc = .ok (.ireturn, 1) → W p l e rm s m args below meth c H locs cells slots Q (F0 m pc ls [.int v])) →
      W p l e rm s m args below meth c s.heap [] 0 0 Q (F0 m 0 ls [])) : ZX l y ws rm D T w w' as rv mc ms := by
  intro sz
  refine Met.ofW (cc := cc) (maxL := maxL) (ret := some rt) hy hw ?_
  intro p e s m args below meth c s₁ B hml hv
  obtain ⟨rfl, hsz, hP, hK, hD0⟩ := hv
  subst hsz
  rw [lg_entry_eq]
  refine body p e s m _ below meth c _ _ _ ⟨⟨B.exec, B.bytes, hml, findClass_of_methodNamed B.named, atoms_spec (ws := ws) B.pre⟩, hK, fun q h => Or.inr h⟩ (name_of_methodNamed B.named B.method).1 ⟨hP, zA_self hD0, va_S.rf⟩ (lv_entry as hlen) ?_
  intro H locs cells slots pc ls v wf u M h1 h2 h3 h4 h5 hdg
  subst h1; subst h2
  obtain ⟨hP, hD, hS⟩ := M
  refine W.widen h4 h5 ?_
  exact W.zret (v := v) B.exec B.bytes B.returns h3 (fun t ht hW => ⟨⟨v, u, rfl, rfl, by rw [ht]; exact hP, va_K.moved hW.alike hK, hD⟩, hS.F ht⟩) hS.2.2 hdg B.notSynchronized
theorem z_two {σ τ : Nat → Nat → Int32} (h : ∀ a, a ≠ 29 → a ≠ 30 → τ a = σ a) : τ = upS (upS σ 29 (τ 29)) 30 (τ 30) := by
  funext a
  unfold upS
  split
  · next e => rw [e]
  · split
    · next e => rw [e]
    · next e1 e2 => exact h a e2 e1
theorem z_k1 (σ : Nat → Nat → Int32) (f g : Nat → Int32) {a : Nat} (h1 : a ≠ 29) (h2 : a ≠ 30) : upS (upS (upS σ 29 f) 30 g) 31 (fun _ => 0) a = upS σ 31 (fun _ => 0) a := by
  unfold upS
  rw [if_neg h2, if_neg h1]
