/-! ===== volumes: areas as natural numbers, their sum ===== -/
def sm8 (al : Nat → Nat) : Nat → Nat
  | 0 => 0
  | n + 1 => sm8 al n + al n
def uN (al : Nat → Nat) (k x : Nat) : Nat → Nat := fun j => if j = k then x else al j
theorem uN_same (al : Nat → Nat) (k x : Nat) : uN al k x k = x := if_pos rfl
theorem uN_ne (al : Nat → Nat) {k j : Nat} (x : Nat) (h : j ≠ k) : uN al k x j = al j := if_neg h
theorem sm8_o {al : Nat → Nat} {k x : Nat} : ∀ n, n ≤ k → sm8 (uN al k x) n = sm8 al n
  | 0, _ => rfl
  | n + 1, h => by
    rw [sm8, sm8, sm8_o n (by omega), uN_ne _ _ (by omega)]
theorem sm8_u {al : Nat → Nat} {k x : Nat} : ∀ n, k < n → sm8 (uN al k x) n + al k = sm8 al n + x
  | 0, h => absurd h (Nat.not_lt_zero _)
  | n + 1, h => by
    rw [sm8, sm8]
    by_cases e : k = n
    · subst e
      rw [sm8_o k (Nat.le_refl k), uN_same]
      omega
    · have ih := sm8_u (al := al) (k := k) (x := x) n (by omega)
      rw [uN_ne _ _ (show n ≠ k from fun q => e q.symm)]
      omega
theorem sm8_le {al : Nat → Nat} : ∀ n j, j < n → al j ≤ sm8 al n
  | 0, _, h => absurd h (Nat.not_lt_zero _)
  | n + 1, j, h => by
    rw [sm8]
    by_cases e : j = n
    · subst e
      omega
    · have := sm8_le (al := al) n j (by omega)
      omega
/-- the areas α are natural, 1 at least, their sum is v -/
def nr (α : Nat → Int32) (al : Nat → Nat) : Prop := ∀ j, j < 8 → α j = nI (al j) ∧ 1 ≤ al j
def vS (α : Nat → Int32) (v : Nat) : Prop := ∃ al : Nat → Nat, nr α al ∧ sm8 al 8 = v
theorem nr_u {α : Nat → Int32} {al : Nat → Nat} (h : nr α al) {k x : Nat} (hx : 1 ≤ x) : nr (upd α k (nI x)) (uN al k x) := by
  intro j hj
  by_cases e : j = k
  · subst e
    rw [upd_same, uN_same]
    exact ⟨rfl, hx⟩
  · rw [upd_ne _ _ e, uN_ne _ _ e]
    exact h j hj
theorem vS_VO {α : Nat → Int32} {v : Nat} (h : vS α v) : VO α 0 = nI v := by
  obtain ⟨al, h1, h2⟩ := h
  subst h2
  rw [VO_eq]
  have key : ∀ n, n ≤ 8 → vol α 0 n = nI (sm8 al n) := by
    intro n
    induction n with
    | zero => intro _; rfl
    | succ n ih =>
      intro hn
      rw [vol, ih (by omega), Nat.zero_add, (h1 n (by omega)).1, sm8, nI_add]
  exact key 8 (Nat.le_refl 8)
theorem vS_at {α : Nat → Int32} {v : Nat} (h : vS α v) {j : Nat} (hj : j < 8) : ∃ x : Nat, α j = nI x ∧ 1 ≤ x ∧ x ≤ v := by
  obtain ⟨al, h1, h2⟩ := h
  exact ⟨al j, (h1 j hj).1, (h1 j hj).2, by rw [← h2]; exact sm8_le 8 j hj⟩
theorem vS_set {α : Nat → Int32} {v : Nat} (h : vS α v) (hv : v < 2 ^ 30) {k x y : Nat} (hk : k < 8) (hx : α k = nI x) (hxb : x < 2 ^ 31) (hy : 1 ≤ y) : x ≤ v ∧ vS (upd α k (nI y)) (v - x + y) := by
  obtain ⟨al, h1, h2⟩ := h
  have hle := sm8_le (al := al) 8 k hk
  have e : al k = x := (nI_eq (by omega) hxb).mp ((h1 k hk).1.symm.trans hx)
  have hs := sm8_u (al := al) (k := k) (x := y) 8 hk
  exact ⟨by omega, uN al k y, nr_u h1 hy, by omega⟩
theorem vS_le {α : Nat → Int32} {v : Nat} (h : vS α v) : 8 ≤ v := by
  obtain ⟨al, h1, h2⟩ := h
  have a0 := (h1 0 (by decide)).2
  have a1 := (h1 1 (by decide)).2
  have a2 := (h1 2 (by decide)).2
  have a3 := (h1 3 (by decide)).2
  have a4 := (h1 4 (by decide)).2
  have a5 := (h1 5 (by decide)).2
  have a6 := (h1 6 (by decide)).2
  have a7 := (h1 7 (by decide)).2
  have e : sm8 al 8 = 0 + al 0 + al 1 + al 2 + al 3 + al 4 + al 5 + al 6 + al 7 := rfl
  omega
/-- m from g to t -/
theorem vS_blow {α : Nat → Int32} {v : Nat} (h : vS α v) (hv : v < 2 ^ 30) {g t m x : Nat} (hg : g < 8) (ht : t < 8) (hgt : t ≠ g) (hx : α g = nI x) (hxb : x < 2 ^ 31) (hm : m < x) : vS (blA α g t (nI m)) v := by
  unfold blA
  rw [hx, pk_sub (Nat.le_of_lt hm)]
  obtain ⟨h1, h2⟩ := vS_set h hv hg hx hxb (y := x - m) (by omega)
  obtain ⟨y, y1, y2, y3⟩ := vS_at h ht
  have e : upd α g (nI (x - m)) t = nI y := (upd_ne _ _ hgt).trans y1
  rw [e, nI_add]
  obtain ⟨h3, h4⟩ := vS_set h2 (by omega) ht e (by omega) (y := y + m) (by omega)
  have e2 : v - x + (x - m) - y + (y + m) = v := by omega
  rw [e2] at h4
  exact h4
/-- a minute's scale -/
theorem vS_scl {α : Nat → Int32} {v : Nat} (h : vS α v) (hv : v < 2 ^ 30) (L : Nat) : ∀ n, n ≤ 8 → ∃ t, t ≤ v ∧ vS (sclA α 0 n) (v - t) ∧ sclN α 0 (nI L) n = nI (L + t)
  | 0, _ => ⟨0, Nat.zero_le _, h, rfl⟩
  | n + 1, hn => by
    obtain ⟨t, t1, t2, t3⟩ := vS_scl h hv L n (by omega)
    obtain ⟨x, x1, x2, x3⟩ := vS_at t2 (j := n) (by omega)
    rw [sclA, sclN, Nat.zero_add, x1, t3]
    by_cases c : (1 : Int32) < nI x
    · have hx := (nI_ltI (a := 1) (by decide) (show x < 2 ^ 31 by omega)).mp c
      rw [if_pos c, if_pos c, show nI x - 1 = nI (x - 1) from pk_sub (a := x) (b := 1) (by omega)]
      obtain ⟨h1, h2⟩ := vS_set t2 (by omega) (show n < 8 by omega) x1 (by omega) (y := x - 1) (by omega)
      refine ⟨t + 1, by omega, ?_, nI_1 (L + t)⟩
      have e : v - t - x + (x - 1) = v - (t + 1) := by omega
      rw [e] at h2
      exact h2
    · rw [if_neg c, if_neg c]
      exact ⟨t, t1, t2, rfl⟩
theorem vS_S {α : Nat → Int32} {v : Nat} (h : vS α v) (hv : v < 2 ^ 30) (L : Nat) : ∃ t, t ≤ v ∧ vS (SA α 0) (v - t) ∧ SN α 0 (nI L) = nI (L + t) := by
  rw [SA_eq, SN_eq]
  exact vS_scl h hv L 8 (Nat.le_refl 8)
theorem vS_heat {α : Nat → Int32} {v : Nat} (f sk : Int32) (h : vS α v) (hv : v < 2 ^ 30) (L : Nat) : ∀ n, ∃ t, t ≤ v ∧ vS (hAr f sk 0 α n) (v - t) ∧ hLo f sk 0 α (nI L) n = nI (L + t)
  | 0 => ⟨0, Nat.zero_le _, h, rfl⟩
  | n + 1 => by
    obtain ⟨t, t1, t2, t3⟩ := vS_heat f sk h hv L n
    rw [hAr, hLo]
    split
    · split
      · exact ⟨t, t1, t2, t3⟩
      · obtain ⟨t', u1, u2, u3⟩ := vS_S t2 (by omega) (L + t)
        rw [t3, u3]
        refine ⟨t + t', by omega, ?_, by rw [Nat.add_assoc]⟩
        rw [← Nat.sub_sub]
        exact u2
    · exact ⟨t, t1, t2, t3⟩
/-- a cut -/
theorem vS_cut {α : Nat → Int32} {v : Nat} (h : vS α v) (hv : v < 2 ^ 30) {j mu : Nat} (hj : j < 8) (h1 : 1 ≤ mu) (h2 : mu < 2 ^ 30) : ∃ t, t ≤ mu ∧ t ≤ v ∧ imin (nI mu) (α j - 1) = nI t ∧ vS (upd α j (α j - nI t)) (v - t) := by
  obtain ⟨x, x1, x2, x3⟩ := vS_at h hj
  refine ⟨min mu (x - 1), Nat.min_le_left _ _, by omega, ?_, ?_⟩
  · rw [x1, show nI x - 1 = nI (x - 1) from pk_sub (a := x) (b := 1) (by omega), imin_n (by omega) (by omega)]
  · rw [x1, pk_sub (show min mu (x - 1) ≤ x by omega)]
    obtain ⟨g1, g2⟩ := vS_set h hv hj x1 (by omega) (y := x - min mu (x - 1)) (by omega)
    have e : v - x + (x - min mu (x - 1)) = v - min mu (x - 1) := by omega
    rw [e] at g2
    exact g2
/-- a die's areas -/
def dA (γ : Nat → Int32) : Prop := ∀ j, j < 8 → nbd 1 400 (γ j)
theorem vS_flo {γ : Nat → Int32} (hg : dA γ) {s : Nat} (hs : s < 8) : ∀ (n : Nat) (f : Nat → Int32) (v : Nat), vS f v → v < 2 ^ 29 → vS (flo0 γ s n f).1 v
  | 0, _, _, h, _ => h
  | n + 1, f, v, h, hv => by
    rw [flo0]
    split
    · exact h
    · next c1 =>
      split
      · obtain ⟨q, q1, q2, q3, q4⟩ := (GV_cases (ov0 f γ) s hs).resolve_left c1
        rw [q4, nI_clamp (show q < 2 ^ 31 by omega)]
        refine vS_flo hg hs n _ v ?_ hv
        obtain ⟨x, x1, x2, x3⟩ := vS_at h q1
        obtain ⟨g, g1, g2, g3⟩ := hg q q1
        have hq : γ q < f q := (bnd_sub (B := 2 ^ 29) (by decide) ⟨x, by omega, x1⟩ ⟨g, by omega, g3⟩).1.mp q3
        rw [x1, g3] at hq
        have hq := (nI_ltI (show g < 2 ^ 31 by omega) (show x < 2 ^ 31 by omega)).mp hq
        exact vS_blow h (by omega) q1 hs (fun e => q2 e.symm) x1 (by omega) (m := 1) (by omega)
      · exact h
theorem vS_fls {γ : Nat → Int32} (hg : dA γ) : ∀ (n m : Nat) (f : Nat → Int32) (v : Nat), n ≤ 8 → vS f v → v < 2 ^ 29 → vS (fls0 γ n m f) v
  | 0, _, _, _, _, h, _ => h
  | n + 1, m, f, v, hn, h, hv => by
    rw [fls0]
    exact vS_fls hg n _ _ v (by omega) (vS_flo hg (by omega) m f v h hv) hv
theorem vS_FM {γ : Nat → Int32} (hg : dA γ) (m : Nat) {f : Nat → Int32} {v : Nat} (h : vS f v) (hv : v < 2 ^ 29) : vS (FM γ m f) v := by
  rw [FM_eq]
  exact vS_fls hg 8 m f v (Nat.le_refl 8) h hv
/-- how many are below the die -/
theorem CL_n (γ f : Nat → Int32) : ∃ t, t ≤ 8 ∧ CL γ f = nI t ∧ (t = 0 → ∀ j, j < 8 → ¬ f j < γ j) := by
  rw [CL_eq]
  have key : ∀ n, ∃ t, t ≤ n ∧ cbl γ f n = nI t ∧ (t = 0 → ∀ j, j < n → ¬ f j < γ j) := by
    intro n
    induction n with
    | zero => exact ⟨0, Nat.le_refl 0, rfl, fun _ j h => absurd h (Nat.not_lt_zero _)⟩
    | succ n ih =>
      obtain ⟨t, t1, t2, t3⟩ := ih
      rw [cbl, Nat.zero_add]
      split
      · exact ⟨t + 1, by omega, by rw [t2, nI_1], fun e => by omega⟩
      · next c =>
        refine ⟨t, by omega, t2, fun e j hj => ?_⟩
        by_cases e2 : j = n
        · rw [e2]
          exact c
        · exact t3 e j (by omega)
  exact key 8
theorem flK_o {γ f : Nat → Int32} : ∀ n j, n ≤ j → flK γ f n j = f j
  | 0, _, _ => rfl
  | n + 1, j, h => by
    rw [flK, upd_ne _ _ (by omega)]
    exact flK_o n j (by omega)
theorem flK_i {γ f : Nat → Int32} : ∀ n j, j < n → flK γ f n j = γ j
  | 0, _, h => absurd h (Nat.not_lt_zero _)
  | n + 1, j, h => by
    rw [flK, Nat.zero_add]
    by_cases e : j = n
    · rw [e, upd_same]
    · rw [upd_ne _ _ e]
      exact flK_i n j (by omega)
/-- flash -/
theorem vS_flash {γ f : Nat → Int32} {v : Nat} (hg : dA γ) (h : vS f v) (hv : v < 2 ^ 29) (hno : ∀ j, j < 8 → ¬ f j < γ j) (L : Nat) : ∃ t, t ≤ v ∧ vS (KA γ f) (v - t) ∧ KX γ f (nI L) = nI (L + t) := by
  rw [KA_eq, KX_eq]
  obtain ⟨al, h1, h2⟩ := h
  have hga : ∀ j, j < 8 → ∃ g, 1 ≤ g ∧ g ≤ al j ∧ γ j = nI g := by
    intro j hj
    obtain ⟨g, g1, g2, g3⟩ := hg j hj
    have hle := sm8_le (al := al) 8 j hj
    refine ⟨g, g1, ?_, g3⟩
    have q := hno j hj
    rw [(h1 j hj).1, g3] at q
    exact Nat.le_of_not_lt (fun c => q ((nI_ltI (by omega) (by omega)).mpr c))
  have key : ∀ n, n ≤ 8 → ∃ (t : Nat) (be : Nat → Nat), (∀ j, j < n → γ j = nI (be j) ∧ 1 ≤ be j) ∧ (∀ j, n ≤ j → be j = al j) ∧ sm8 be 8 + t = v ∧ flX γ f (nI L) n = nI (L + t) := by
    intro n
    induction n with
    | zero => exact fun _ => ⟨0, al, fun j hj => absurd hj (Nat.not_lt_zero _), fun _ _ => rfl, h2, rfl⟩
    | succ n ih =>
      intro hn
      obtain ⟨t, be, b1, b2, b3, b4⟩ := ih (by omega)
      obtain ⟨g, g1, g2, g3⟩ := hga n (by omega)
      have hs := sm8_u (al := be) (k := n) (x := g) 8 (by omega)
      have hn2 := b2 n (Nat.le_refl n)
      refine ⟨t + (al n - g), uN be n g, fun j hj => ?_, fun j hj => ?_, by omega, ?_⟩
      · by_cases e : j = n
        · rw [e, uN_same]
          exact ⟨g3, g1⟩
        · rw [uN_ne _ _ e]
          exact b1 j (by omega)
      · rw [uN_ne _ _ (by omega)]
        exact b2 j (by omega)
      · rw [flX, Nat.zero_add, flK_o n n (Nat.le_refl n), b4, (h1 n (by omega)).1, g3, pk_sub g2, nI_add, Nat.add_assoc]
  obtain ⟨t, be, b1, b2, b3, b4⟩ := key 8 (Nat.le_refl 8)
  exact ⟨t, by omega, ⟨be, fun j hj => by rw [flK_i 8 j hj]; exact b1 j hj, by omega⟩, b4⟩
/-! hardness -/
theorem hrc_n {k n : Nat} (hk : k ≤ 70) (h1 : 100 ≤ n) (h2 : n ≤ 700) : hrc (nI k) (nI n) = nI (k - (n - 100) / 20) := by
  unfold hrc
  have e : (nI n - 100) / 20 = nI ((n - 100) / 20) := by
    rw [show nI n - 100 = nI (n - 100) from pk_sub (a := n) (b := 100) h1, show (20 : Int32) = nI 20 from rfl, pk_div (by omega) (by decide) (by decide)]
  rw [e]
  by_cases c : (n - 100) / 20 < k
  · rw [pk_sub (Nat.le_of_lt c), if_pos (show (0 : Int32) < nI (k - (n - 100) / 20) from (nI_ltI (a := 0) (by decide) (by omega)).mpr (by omega))]
  · have hb := bnd_sub (B := 2 ^ 20) (by decide) (a := nI k) (b := nI ((n - 100) / 20)) ⟨k, by omega, rfl⟩ ⟨_, by omega, rfl⟩
    rw [if_neg (fun q => c ((nI_ltI (by omega) (by omega)).mp (hb.1.mp q))), show k - (n - 100) / 20 = 0 by omega]
    rfl
def mn8 (hv : Nat → Nat) : Nat → Nat
  | 0 => hv 0
  | n + 1 => min (hv (n + 1)) (mn8 hv n)
theorem LH_n {f : Nat → Int32} {hv : Nat → Nat} (h : ∀ j, j < 8 → f j = nI (hv j) ∧ hv j ≤ 70) : LH f = nI (mn8 hv 7) ∧ mn8 hv 7 ≤ 70 ∧ ∀ j, j < 8 → mn8 hv 7 ≤ hv j := by
  rw [LH_eq]
  have key : ∀ n, n < 8 → lhc f n = nI (mn8 hv n) ∧ mn8 hv n ≤ 70 ∧ ∀ j, j ≤ n → mn8 hv n ≤ hv j := by
    intro n
    induction n with
    | zero => exact fun _ => ⟨(h 0 (by decide)).1, (h 0 (by decide)).2, fun j hj => by rw [show j = 0 by omega]; exact Nat.le_refl _⟩
    | succ n ih =>
      intro hn
      obtain ⟨i1, i2, i3⟩ := ih (by omega)
      obtain ⟨g1, g2⟩ := h (n + 1) hn
      refine ⟨?_, by rw [mn8]; omega, fun j hj => ?_⟩
      · rw [lhc, mn8, i1, g1]
        by_cases c : hv (n + 1) < mn8 hv n
        · rw [if_pos ((nI_ltI (by omega) (by omega)).mpr c), Nat.min_eq_left (by omega)]
        · rw [if_neg (fun q => c ((nI_ltI (by omega) (by omega)).mp q)), Nat.min_eq_right (by omega)]
      · rw [mn8]
        by_cases e : j = n + 1
        · subst e
          omega
        · have := i3 j (by omega)
          omega
  obtain ⟨a, b, c⟩ := key 7 (by decide)
  exact ⟨a, b, fun j hj => c j (by omega)⟩
