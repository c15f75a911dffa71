/-! ===== press: the rows of one billet and of one die, and the rows of all ===== -/
theorem gvr_cg {ov ov' : Nat → Int32} {s : Nat} (hs : s < 8) (h : ∀ x, x < 8 → ov x = ov' x) : ∀ n, n ≤ 7 → gvr ov s n = gvr ov' s n
  | 0, _ => rfl
  | n + 1, hn => by
    have ih := gvr_cg hs h n (by omega)
    have g2 : gv2 ov s (7 - n) (gvr ov s n) = gv2 ov' s (7 - n) (gvr ov' s n) := by
      unfold gv2
      rw [ih]
      by_cases c : s + (7 - n) < 8
      · rw [if_pos c, if_pos c, h _ c]
      · rw [if_neg c, if_neg c]
    rw [gvr, gvr, g2]
    by_cases c : s < 7 - n
    · rw [if_pos c, if_pos c]
    · rw [if_neg c, if_neg c, h (s - (7 - n)) (by omega)]
theorem GV_cg {ov ov' : Nat → Int32} {s : Nat} (hs : s < 8) (h : ∀ x, x < 8 → ov x = ov' x) : GV ov s = GV ov' s := by
  rw [GV_eq, GV_eq]
  exact gvr_cg hs h 7 (Nat.le_refl 7)
theorem upd_sl {α F : Nat → Int32} {b q : Nat} {v v' : Int32} (h : ∀ j, j < 8 → α j = F (b + j)) (hv : v = v') : ∀ j, j < 8 → upd α q v j = upd F (b + q) v' (b + j) := by
  intro j hj
  by_cases e : j = q
  · rw [e, upd_same, upd_same, hv]
  · rw [upd_ne _ _ e, upd_ne _ _ (by omega)]
    exact h j hj
theorem flo_sl {γ G : Nat → Int32} {b d s : Nat} (hs : s < 8) (hG : ∀ j, j < 8 → γ j = G (d + j)) : ∀ (n : Nat) (α F : Nat → Int32), (∀ j, j < 8 → α j = F (b + j)) → (flo0 γ s n α).2 = (flo G b d s n F).2 ∧ (∀ j, j < 8 → (flo0 γ s n α).1 j = (flo G b d s n F).1 (b + j)) ∧ ∀ k, k < b ∨ b + 8 ≤ k → (flo G b d s n F).1 k = F k
  | 0, _, _, h => ⟨rfl, h, fun _ _ => rfl⟩
  | n + 1, α, F, h => by
    have eo : ∀ x, x < 8 → ov0 α γ x = ovr F G b d x := fun x hx => by
      unfold ov0 ovr
      rw [h x hx, hG x hx]
    have eG : GV (ov0 α γ) s = GV (ovr F G b d) s := GV_cg hs eo
    rw [flo0, flo, eG, eo s hs]
    by_cases c : GV (ovr F G b d) s = -1
    · rw [if_pos c, if_pos c]
      exact ⟨rfl, h, fun _ _ => rfl⟩
    · obtain ⟨q, hq, -, -, eq9⟩ := (GV_cases (ovr F G b d) s hs).resolve_left c
      rw [if_neg c, if_neg c, eq9, nI_clamp (by omega)]
      by_cases c2 : ovr F G b d s < 0
      · rw [if_pos c2, if_pos c2]
        have e1 : ∀ j, j < 8 → upd α q (α q - 1) j = upd F (b + q) (F (b + q) - 1) (b + j) := upd_sl h (by rw [h q hq])
        have e2 : ∀ j, j < 8 → upd (upd α q (α q - 1)) s (upd α q (α q - 1) s + 1) j = upd (upd F (b + q) (F (b + q) - 1)) (b + s) (upd F (b + q) (F (b + q) - 1) (b + s) + 1) (b + j) := upd_sl e1 (by rw [e1 s hs])
        obtain ⟨i1, i2, i3⟩ := flo_sl hs hG n _ _ e2
        exact ⟨i1, i2, fun k hk => by rw [i3 k hk, upd_ne _ _ (by omega), upd_ne _ _ (by omega)]⟩
      · rw [if_neg c2, if_neg c2]
        exact ⟨rfl, h, fun _ _ => rfl⟩
theorem fls_sl {γ G : Nat → Int32} {b d : Nat} (hG : ∀ j, j < 8 → γ j = G (d + j)) : ∀ (n m : Nat) (α F : Nat → Int32), (∀ j, j < 8 → α j = F (b + j)) → (∀ j, j < 8 → fls0 γ n m α j = fls G b d n m F (b + j)) ∧ ∀ k, k < b ∨ b + 8 ≤ k → fls G b d n m F k = F k
  | 0, _, _, _, h => ⟨h, fun _ _ => rfl⟩
  | n + 1, m, α, F, h => by
    obtain ⟨i1, i2, i3⟩ := flo_sl (show 7 - n < 8 by omega) hG m α F h
    rw [fls0, fls, i1]
    obtain ⟨j1, j2⟩ := fls_sl hG n _ _ _ i2
    exact ⟨j1, fun k hk => by rw [j2 k hk, i3 k hk]⟩
theorem flo0_nbd {γ : Nat → Int32} {B : Nat} (hB : 400 ≤ B) (hB2 : B < 2 ^ 30) (hγ : ∀ j, j < 8 → nbd 1 400 (γ j)) {s : Nat} (hs : s < 8) : ∀ (n : Nat) (α : Nat → Int32), (∀ j, j < 8 → nbd 1 B (α j)) → ∀ j, j < 8 → nbd 1 B ((flo0 γ s n α).1 j)
  | 0, _, h => h
  | n + 1, α, h => by
    have hb : ∀ {v : Int32} {x y : Nat}, nbd x y v → bnd y v := fun ⟨m, _, m2, m3⟩ => ⟨m, m2, m3⟩
    have hp : ∀ x, x < 8 → (0 < ov0 α γ x ↔ γ x < α x) ∧ (ov0 α γ x < 0 ↔ α x < γ x) := fun x hx => ov0_pos hB2 (fun x hx => hb (h x hx)) (fun x hx => hb (nbd_le hB (hγ x hx))) hx
    rw [flo0]
    by_cases c : GV (ov0 α γ) s = -1
    · rw [if_pos c]
      exact h
    · obtain ⟨q, hq, hqs, q0, eq9⟩ := (GV_cases (ov0 α γ) s hs).resolve_left c
      rw [if_neg c, eq9, nI_clamp (by omega)]
      by_cases c2 : ov0 α γ s < 0
      · rw [if_pos c2]
        refine flo0_nbd hB hB2 hγ hs n _ (fun j hj => ?_)
        have l1 := (hp q hq).1.mp q0
        have l2 := (hp s hs).2.mp c2
        by_cases e : j = s
        · rw [e, upd_same, upd_ne _ _ (Ne.symm hqs)]
          obtain ⟨a, a1, a2, a3⟩ := h s hs
          obtain ⟨g, g1, g2, g3⟩ := hγ s hs
          rw [a3, g3] at l2
          have := (nI_ltI (by omega) (by omega)).mp l2
          rw [a3, nI_1]
          exact ⟨a + 1, by omega, by omega, rfl⟩
        · rw [upd_ne _ _ e]
          by_cases e2 : j = q
          · rw [e2, upd_same]
            obtain ⟨a, a1, a2, a3⟩ := h q hq
            obtain ⟨g, g1, g2, g3⟩ := hγ q hq
            rw [a3, g3] at l1
            have := (nI_ltI (by omega) (by omega)).mp l1
            rw [a3, show (1 : Int32) = nI 1 from rfl, pk_sub (by omega)]
            exact ⟨a - 1, by omega, by omega, rfl⟩
          · rw [upd_ne _ _ e2]
            exact h j hj
      · rw [if_neg c2]
        exact h
theorem fls0_nbd {γ : Nat → Int32} {B : Nat} (hB : 400 ≤ B) (hB2 : B < 2 ^ 30) (hγ : ∀ j, j < 8 → nbd 1 400 (γ j)) : ∀ (n m : Nat) (α : Nat → Int32), (∀ j, j < 8 → nbd 1 B (α j)) → ∀ j, j < 8 → nbd 1 B (fls0 γ n m α j)
  | 0, _, _, h => h
  | n + 1, m, α, h => by
    rw [fls0]
    exact fls0_nbd hB hB2 hγ n _ _ (flo0_nbd hB hB2 hγ (by omega) m α h)
theorem sub_self_sub (a b : Int32) : a - (a - b) = b := by
  rw [Int32.sub_eq_add_neg, Int32.neg_sub, Int32.sub_eq_add_neg, Int32.add_comm b, ← Int32.add_assoc, Int32.add_right_neg, Int32.zero_add]
theorem add3x (a b c t : Int32) : a + b + c + t = a + (b + t) + c := by
  rw [Int32.add_assoc a b c, Int32.add_assoc a (b + c) t, Int32.add_assoc b c t, Int32.add_comm c t, ← Int32.add_assoc b t c, ← Int32.add_assoc a (b + t) c]
theorem flA_sl {γ G α F : Nat → Int32} {b d : Nat} (hG : ∀ j, j < 8 → γ j = G (d + j)) (h : ∀ j, j < 8 → α j = F (b + j)) : ∀ n, n ≤ 8 → (∀ j, j < 8 → flK γ α n j = flA G b d F n (b + j)) ∧ ∀ k, k < b ∨ b + 8 ≤ k → flA G b d F n k = F k
  | 0, _ => ⟨h, fun _ _ => rfl⟩
  | n + 1, hn => by
    obtain ⟨i1, i2⟩ := flA_sl hG h n (by omega)
    rw [flK, flA]
    refine ⟨?_, fun k hk => by rw [upd_ne _ _ (by omega), i2 k hk]⟩
    rw [Nat.zero_add]
    refine upd_sl i1 ?_
    unfold ovr
    rw [sub_self_sub, hG n (by omega)]
theorem flL_sl {γ G α F : Nat → Int32} {b d : Nat} (hG : ∀ j, j < 8 → γ j = G (d + j)) (h : ∀ j, j < 8 → α j = F (b + j)) (a x c : Int32) : ∀ n, n ≤ 8 → flL G b d F (a + x + c) n = a + flX γ α x n + c
  | 0, _ => rfl
  | n + 1, hn => by
    rw [flL, flX, flL_sl hG h a x c n (by omega), add3x]
    have := (flA_sl hG h n (by omega)).1 n (by omega)
    unfold ovr
    rw [Nat.zero_add, this, hG n (by omega)]
theorem cb_sl {γ G α F : Nat → Int32} {b d B : Nat} (hB : B < 2 ^ 30) (hG : ∀ j, j < 8 → γ j = G (d + j)) (h : ∀ j, j < 8 → α j = F (b + j)) (ha : ∀ j, j < 8 → bnd B (α j)) (hg : ∀ j, j < 8 → bnd B (γ j)) : CB (ovr F G b d) = CL γ α := by
  rw [CB_eq, CL_eq]
  have key : ∀ n, n ≤ 8 → cntb (ovr F G b d) n = cbl γ α n := by
    intro n
    induction n with
    | zero => intro _; rfl
    | succ n ih =>
      intro hn
      rw [cntb, cbl, ih (by omega), Nat.zero_add]
      have e : ovr F G b d n = α n - γ n := by
        unfold ovr
        rw [h n (by omega), hG n (by omega)]
      rw [e]
      have q := (bnd_sub hB (ha n (by omega)) (hg n (by omega))).2
      by_cases c : α n < γ n
      · rw [if_pos c, if_pos (q.mpr c)]
      · rw [if_neg c, if_neg (fun z => c (q.mp z))]
  exact key 8 (Nat.le_refl 8)
theorem lif3 : ∀ n, n < 101 → lifv (nI n) 3 = nI (n - 3) ∧ (if 0 < nI n - 3 then nI n - 3 else 0) = nI (n - 3) := by decide +kernel
theorem lif1 : ∀ n, n < 101 → lifv (nI n) 1 = nI (n - 1) ∧ (if 0 < nI n - 1 then nI n - 1 else 0) = nI (n - 1) := by decide +kernel
theorem FM_sl {γ G α F : Nat → Int32} {b d : Nat} (hG : ∀ j, j < 8 → γ j = G (d + j)) (h : ∀ j, j < 8 → α j = F (b + j)) (m : Nat) : (∀ j, j < 8 → FM γ m α j = FL G b d m F (b + j)) ∧ ∀ k, k < b ∨ b + 8 ≤ k → FL G b d m F k = F k := by
  rw [FM_eq, FL_eq]
  exact fls_sl hG 8 m α F h
theorem FM_nbd {γ α : Nat → Int32} {B : Nat} (hB : 400 ≤ B) (hB2 : B < 2 ^ 30) (hγ : ∀ j, j < 8 → nbd 1 400 (γ j)) (h : ∀ j, j < 8 → nbd 1 B (α j)) (m : Nat) : ∀ j, j < 8 → nbd 1 B (FM γ m α j) := by
  rw [FM_eq]
  exact fls0_nbd hB hB2 hγ 8 m α h
theorem FB_sl {γ G α F : Nat → Int32} {b d : Nat} (hG : ∀ j, j < 8 → γ j = G (d + j)) (h : ∀ j, j < 8 → α j = F (b + j)) (a x c : Int32) : FB G b d F (a + x + c) = a + KX γ α x + c := by
  rw [FB_eq, KX_eq]
  exact flL_sl hG h a x c 8 (Nat.le_refl 8)
theorem FA_sl {γ G α F : Nat → Int32} {b d : Nat} (hG : ∀ j, j < 8 → γ j = G (d + j)) (h : ∀ j, j < 8 → α j = F (b + j)) : (∀ j, j < 8 → KA γ α j = FA G b d F (b + j)) ∧ ∀ k, k < b ∨ b + 8 ≤ k → FA G b d F k = F k := by
  rw [FA_eq, KA_eq]
  exact flA_sl hG h 8 (Nat.le_refl 8)
theorem KA_at (γ α : Nat → Int32) {j : Nat} (hj : j < 8) : KA γ α j = γ j := by
  rw [KA_eq]
  have key : ∀ n, j < n → flK γ α n j = γ j := by
    intro n
    induction n with
    | zero => intro h; omega
    | succ n ih =>
      intro h
      rw [flK, Nat.zero_add]
      by_cases e : j = n
      · rw [e, upd_same]
      · rw [upd_ne _ _ e]
        exact ih (by omega)
  exact key 8 hj
section ST9
variable {l : Launch} {D : va_G} {T : Nat → ClassId} {ea mi : Nat} {sa : Nat → Nat} {om : Nat} {am : Nat → Nat}
variable {C : Nat} {ad : Nat → Nat} {J : List Nat} {N mst bst : Nat → Nat} {ρ σ : Nat → Nat → Int32} {f : Nat → Int64}
variable {i d : Nat}
abbrev P11 (ad : Nat → Nat) (T : Nat → ClassId) (N bst : Nat → Nat) (ρ : Nat → Nat → Int32) (i d : Nat) (β α κ : Nat → Int32) (lf : Int32) : va_W := E7 ad T N bst ρ i β α κ ++ [(ad 8, .inr (0, [.int (ρ 8 0), .ref (ad 22), .int (nI (N 2))])), (ad 22, .inl (T 3, cap (N 2), qa (liF ad (fun i => 200 + 2 * i) (N 2)))), (ad (200 + 2 * d), .inr (2, [.ref (ad (201 + 2 * d)), .int lf])), (ad (201 + 2 * d), .inl (T 0, 8, .inl (ρ (201 + 2 * d))))]
abbrev jsP (bst : Nat → Nat) (i d : Nat) : List Nat := [0, 7, 21, 100 + 3 * i, 101 + 3 * i, 102 + 3 * i, 2 + bst i, 8, 22, 200 + 2 * d, 201 + 2 * d]
theorem p11_iw (hi : i < 12) (h0 : 0 < N 1) (hb : bst i < 4) (hd : d < 4) (h2 : 0 < N 2) : iw (jsP bst i d) ad (hG ad T ea f N mst bst ρ) = P11 ad T N bst ρ i d (ρ (100 + 3 * i)) (ρ (101 + 3 * i)) (ρ (102 + 3 * i)) (ρ (200 + 2 * d) 0) := by
  unfold jsP
  rw [iw_cons, iw_cons, iw_cons, iw_cons, iw_cons, iw_cons, iw_cons, iw_cons, iw_cons, iw_cons, iw_cons, iw_nil, hG_b hi, hG_7 h0, hG_a hi, hG_q hi, hG_s hb, hG_d hd, hG_8 h2, hG_e hd]
  rfl
def upP9 (ρ : Nat → Nat → Int32) (i d : Nat) (β α κ : Nat → Int32) (lf : Int32) : Nat → Nat → Int32 := upR (upB ρ i β α κ) (200 + 2 * d) (fun _ => lf)
theorem okP {cy : MethodName} {cws : List Cond} {nL : Nat} {las : List Value} {my : MethodName} {mws : List Cond} {mrm : Room} {mas : List Value} {cv : Int32 → Int64} {rm : Room} {rv : Int32} (hI : Inv C J N mst bst ρ σ) (hi : i < N 1) (hd : d < N 2) {β α κ : Nat → Int32} {lf : Int32}
    (hw : ZIH l cy cws rm (zX ea mi sa) D T (S := Unit) (ouW (ad 16) T f :: P11 ad T N bst ρ i d (ρ (100 + 3 * i)) (ρ (101 + 3 * i)) (ρ (102 + 3 * i)) (ρ (200 + 2 * d) 0)) (fun _ => (ad 16, .inl (T 2, 1, .inr (.inl (vp_updL f (0 : Int32).toNatClampNeg (cv rv))))) :: P11 ad T N bst ρ i d β α κ lf) las 0 0 0)
    (hrm : rm.cells = 0 ∧ rm.slots = 0 ∧ rm.frames + 1 ≤ 11 ∧ 8 + (nL + 11) + rm.locals ≤ 404) {σ' : Nat → Nat → Int32} (hm : ZI l my mws mrm D T (mW om am T σ) (mW om am T σ') mas rv 0 0) (h31 : σ' 31 0 = 0) (hI' : Inv (C + 1) J N mst bst (upP9 ρ i d β α κ lf) σ') : StepR l D T ea mi sa cy cws nL las my mws mrm mas cv om am C ad J N mst bst ρ σ f := by
  have hn := hI.1.2.2.2.1
  have hn2 := hI.1.2.2.2.2.1
  have hb := bst4 hI hi
  have u0 : ∀ k, k < 100 → upP9 ρ i d β α κ lf k = ρ k := fun k hk => (upR_ne _ _ (by omega)).trans (upB_o (by omega) (by omega) (by omega))
  have ub : upP9 ρ i d β α κ lf (100 + 3 * i) = β := (upR_ne _ _ (by omega)).trans upB_b
  have ua : upP9 ρ i d β α κ lf (101 + 3 * i) = α := (upR_ne _ _ (by omega)).trans upB_a
  have uq : upP9 ρ i d β α κ lf (102 + 3 * i) = κ := (upR_ne _ _ (by omega)).trans upB_q
  have ul : upP9 ρ i d β α κ lf (200 + 2 * d) = fun _ => lf := upR_at _ _ _
  have ug : upP9 ρ i d β α κ lf (201 + 2 * d) = ρ (201 + 2 * d) := (upR_ne _ _ (by omega)).trans (upB_o (by omega) (by omega) (by omega))
  have e : P11 ad T N bst ρ i d β α κ lf = P11 ad T N bst (upP9 ρ i d β α κ lf) i d (upP9 ρ i d β α κ lf (100 + 3 * i)) (upP9 ρ i d β α κ lf (101 + 3 * i)) (upP9 ρ i d β α κ lf (102 + 3 * i)) (upP9 ρ i d β α κ lf (200 + 2 * d) 0) := by
    unfold P11 E7
    rw [ub, ua, uq, ul, ug, u0 0 (by omega), u0 7 (by omega), u0 8 (by omega), u0 (2 + bst i) (by omega)]
  rw [e] at hw
  rw [← p11_iw (f := f) (ea := ea) (mst := mst) (ρ := ρ) (by omega) (by omega) hb (by omega) (by omega)] at hw
  rw [← p11_iw (f := vp_updL f (0 : Int32).toNatClampNeg (cv rv)) (ea := ea) (mst := mst) (ρ := upP9 ρ i d β α κ lf) (by omega) (by omega) hb (by omega) (by omega)] at hw
  refine step_u (ρ' := upP9 ρ i d β α κ lf) (σ' := fun _ : Unit => σ') hI (js := jsP bst i d) ?_ (fun j hj => ?_) hw hrm ⟨by decide, by decide⟩ (fun j hj => ?_) (zI_M hm) (fun _ => h31) (fun _ => vpL _ _) (fun _ => hI')
  · unfold jsP
    simp only [List.nodup_cons, List.mem_cons, List.not_mem_nil, or_false, List.nodup_nil, and_true, not_false_eq_true]
    omega
  · unfold jsP at hj
    simp only [List.mem_cons, List.not_mem_nil, or_false] at hj
    unfold liv
    omega
  · unfold jsP at hj
    simp only [List.mem_cons, List.not_mem_nil, or_false, not_or] at hj
    exact (upR_ne _ _ hj.2.2.2.2.2.2.2.2.2.1).trans (upB_o hj.2.2.2.1 hj.2.2.2.2.1 hj.2.2.2.2.2.1)
theorem badJ {cy : MethodName} {cws : List Cond} {nL : Nat} {las : List Value} {my : MethodName} {mws : List Cond} {mrm : Room} {mas : List Value} {cv : Int32 → Int64} {rm : Room} {k rv : Int32} (hI : Inv C J N mst bst ρ σ) {js : List Nat} (hjs : js.Nodup) (hl : ∀ j ∈ js, liv N j) {W : va_W} (e : iw js ad (hG ad T ea f N mst bst ρ) = W)
    (hw : ZIH l cy cws rm (zX ea mi sa) D T (S := Unit) (ouW (ad 16) T f :: W) (fun _ => ouW (ad 16) T f :: W) las k 1 6) (hrm : rm.cells = 1 ∧ rm.slots = 6 ∧ rm.frames + 1 ≤ 11 ∧ 8 + (nL + 11) + rm.locals ≤ 404) (hk : k ≠ 0) (hm : ZI l my mws mrm D T (mW om am T σ) (mW om am T (upS σ 31 (fun _ => k))) mas rv 0 0) : StepR l D T ea mi sa cy cws nL las my mws mrm mas cv om am C ad J N mst bst ρ σ f := by
  subst e
  exact step_bad hI hjs hl hw hrm hk hm
/-- what a press leaves -/
theorem press_fin (hI : Inv C J N mst bst ρ σ) (hi : i < N 1) (hd : d < N 2) {β' α' A : Nat → Int32} {X L : Int32} (h7 : β' 7 = clS (σ 9 i)) (h8 : β' 8 = wrm (clS (σ 9 i)) (σ 10 i)) (ho : ∀ k, k ≠ 5 → k ≠ 7 → k ≠ 8 → β' k = ρ (100 + 3 * i) k) (hX : ρ (100 + 3 * i) 4 + β' 5 + ρ (100 + 3 * i) 6 = X)
    (hA : ∀ j, j < 8 → α' j = A (8 * i + j) ∧ nbd 1 (400 + 20 * (C + 1)) (α' j)) (hAo : ∀ k, k < 8 * i ∨ 8 * i + 8 ≤ k → A k = σ 7 k) (hL : bnd 100 L) :
    Inv (C + 1) J N mst bst (upP9 ρ i d β' α' (ρ (102 + 3 * i)) L) (upS (upS (upS (upS (upS (upS σ 7 A) 9 (upd (σ 9) i (clS (σ 9 i)))) 10 (upd (σ 10) i (wrm (clS (σ 9 i)) (σ 10 i)))) 20 (upd (σ 20) i X)) 23 (upd (σ 23) d L)) 31 (fun _ => 0)) := by
  have hn := hI.1.2.2.2.1
  have hn2 := hI.1.2.2.2.2.1
  obtain ⟨⟨mo, hmo, b0, s6, bs⟩, ⟨b3, b456⟩, ⟨b7, w7⟩, ⟨b8, w8⟩, b9, ⟨b10, w10⟩, ⟨b11, w11⟩, ⟨b12, w12⟩, ⟨p9, hp9, b13, s15⟩, hld, hpt, har⟩ := hI.2.2.2.2.2.2.2 i hi
  have hD := hI.2.2.2.2.2.1 d hd
  have I1 : Inv (C + 1) J N mst bst (upB ρ i β' α' (ρ (102 + 3 * i))) (upS (upS (upS (upS σ 7 A) 9 (upd (σ 9) i (clS (σ 9 i)))) 10 (upd (σ 10) i (wrm (clS (σ 9 i)) (σ 10 i)))) 20 (upd (σ 20) i X)) := by
    refine Inv_bil (Nat.le_succ C) hi hI (fun j h1 h2 h3 => upB_o h1 h2 h3) (fun k h1 h2 => (upS_ne _ _ (show k ≠ 20 by omega)).trans ((upS_ne _ _ (show k ≠ 10 by omega)).trans ((upS_ne _ _ (show k ≠ 9 by omega)).trans (upS_ne _ _ (show k ≠ 7 by omega)))))
            (fun k i' hk hne => by
                by_cases e20 : k = 20
                · subst e20; exact upd_ne _ _ hne
                by_cases e10 : k = 10
                · subst e10; exact upd_ne _ _ hne
                by_cases e9 : k = 9
                · subst e9; exact upd_ne _ _ hne
                exact congrFun ((upS_ne _ _ (show k ≠ 20 by omega)).trans ((upS_ne _ _ (show k ≠ 10 by omega)).trans ((upS_ne _ _ (show k ≠ 9 by omega)).trans (upS_ne _ _ (show k ≠ 7 by omega))))) i'
            )
            (fun k i' j7 hk hne hj7 => by
                by_cases e7 : k = 7
                · subst e7; exact hAo (8 * i' + j7) (by omega)
                exact congrFun ((upS_ne _ _ (show k ≠ 20 by omega)).trans ((upS_ne _ _ (show k ≠ 10 by omega)).trans ((upS_ne _ _ (show k ≠ 9 by omega)).trans (upS_ne _ _ (show k ≠ 7 by omega))))) (8 * i' + j7)
            ) ?_
    rw [upB_b, upB_a, upB_q]
    unfold BIv
    rw [ho 0 (by decide) (by decide) (by decide), ho 3 (by decide) (by decide) (by decide), ho 4 (by decide) (by decide) (by decide), ho 6 (by decide) (by decide) (by decide), ho 9 (by decide) (by decide) (by decide), ho 10 (by decide) (by decide) (by decide), ho 11 (by decide) (by decide) (by decide), ho 12 (by decide) (by decide) (by decide), ho 13 (by decide) (by decide) (by decide), ho 14 (by decide) (by decide) (by decide), ho 16 (by decide) (by decide) (by decide), ho 17 (by decide) (by decide) (by decide)]
    have wS := nbd_clS w7
    rw [b7] at wS w7
    rw [b8] at w8
    exact ⟨⟨mo, hmo, b0, s6, bs⟩, ⟨b3, hX.trans (upd_same (σ 20) i X).symm⟩, ⟨h7.trans (upd_same (σ 9) i _).symm, h7 ▸ wS⟩, ⟨h8.trans (upd_same (σ 10) i _).symm, h8 ▸ nbd_wrm wS w8⟩, b9, ⟨b10, w10⟩, ⟨b11, bnd_le (Nat.le_succ C) w11⟩, ⟨b12, w12⟩, ⟨p9, hp9, b13, s15⟩, hld, hpt, hA⟩
  refine Inv_D (Nat.le_refl _) hd I1 (fun j h1 h2 => upR_ne _ _ h1) (fun k h1 h2 h3 => (upS_ne _ _ (show k ≠ 31 by omega)).trans (upS_ne _ _ h3)) (fun d' hne => upd_ne _ _ hne) (fun d' j' _ _ => rfl) ⟨⟨?_, ?_⟩, fun j hj => ?_⟩
  · exact (congrFun (upR_at (upB ρ i β' α' (ρ (102 + 3 * i))) (200 + 2 * d) (fun _ => L)) 0).trans (upd_same (σ 23) d L).symm
  · exact (congrArg (bnd 100) (upd_same (σ 23) d L)).mpr hL
  · rw [show upP9 ρ i d β' α' (ρ (102 + 3 * i)) L (201 + 2 * d) = ρ (201 + 2 * d) from (upR_ne _ _ (by omega)).trans (upB_o (by omega) (by omega) (by omega))]
    exact hD.2 j hj
theorem press_crk (hI : Inv C J N mst bst ρ σ) (hi : i < N 1) (hd : d < N 2) : Inv (C + 1) J N mst bst (upP9 ρ i d (upd (ρ (100 + 3 * i)) 12 1) (ρ (101 + 3 * i)) (ρ (102 + 3 * i)) (ρ (200 + 2 * d) 0)) (upS (upS σ 14 (upd (σ 14) i 1)) 31 (fun _ => 0)) := by
  have hn := hI.1.2.2.2.1
  have hn2 := hI.1.2.2.2.2.1
  obtain ⟨⟨mo, hmo, b0, s6, bs⟩, ⟨b3, b456⟩, ⟨b7, w7⟩, ⟨b8, w8⟩, b9, ⟨b10, w10⟩, ⟨b11, w11⟩, ⟨b12, w12⟩, ⟨p9, hp9, b13, s15⟩, hld, hpt, har⟩ := hI.2.2.2.2.2.2.2 i hi
  have hD := hI.2.2.2.2.2.1 d hd
  have I1 : Inv (C + 1) J N mst bst (upB ρ i (upd (ρ (100 + 3 * i)) 12 1) (ρ (101 + 3 * i)) (ρ (102 + 3 * i))) (upS σ 14 (upd (σ 14) i 1)) := by
    refine Inv_bil (Nat.le_succ C) hi hI (fun j h1 h2 h3 => upB_o h1 h2 h3) (fun k h1 h2 => upS_ne _ _ (show k ≠ 14 by omega))
            (fun k i' hk hne => by
                by_cases e14 : k = 14
                · subst e14; exact upd_ne _ _ hne
                exact congrFun (upS_ne _ _ (show k ≠ 14 by omega)) i'
            )
            (fun k i' j7 hk hne hj7 => by
                exact congrFun (upS_ne _ _ (show k ≠ 14 by omega)) (8 * i' + j7)
            ) ?_
    rw [upB_b, upB_a, upB_q]
    exact ⟨⟨mo, hmo, b0, s6, bs⟩, ⟨b3, b456⟩, ⟨b7, w7⟩, ⟨b8, w8⟩, b9, ⟨b10, w10⟩, ⟨b11, bnd_le (Nat.le_succ C) w11⟩, ⟨(upd_same _ _ _).trans (upd_same _ _ _).symm, Or.inr (upd_same _ _ _)⟩, ⟨p9, hp9, b13, s15⟩, hld, hpt, fun j hj => ⟨(har j hj).1, nbd_le (by omega) (har j hj).2⟩⟩
  refine Inv_D (Nat.le_refl _) hd I1 (fun j h1 h2 => upR_ne _ _ h1) (fun k h1 h2 h3 => upS_ne _ _ (show k ≠ 31 by omega)) (fun d' hne => rfl) (fun d' j' _ _ => rfl) ⟨⟨?_, hD.1.2⟩, fun j hj => ?_⟩
  · exact (congrFun (upR_at (upB ρ i (upd (ρ (100 + 3 * i)) 12 1) (ρ (101 + 3 * i)) (ρ (102 + 3 * i))) (200 + 2 * d) (fun _ => ρ (200 + 2 * d) 0)) 0).trans hD.1.1
  · rw [show upP9 ρ i d (upd (ρ (100 + 3 * i)) 12 1) (ρ (101 + 3 * i)) (ρ (102 + 3 * i)) (ρ (200 + 2 * d) 0) (201 + 2 * d) = ρ (201 + 2 * d) from (upR_ne _ _ (by omega)).trans (upB_o (by omega) (by omega) (by omega))]
    exact hD.2 j hj
theorem st_press (hfl : l.stackTraces = false) (hC : C ≤ 600) (hI : Inv C J N mst bst ρ σ) (x y z : Int32) : StepR l D T ea mi sa yL_press wsL_press 6 [.ref (ad 0), .int x, .int y, .int z, .ref (ad 16)] yX6_press wsX6_press (zrm 3 73) [.ref om, .int x, .int y, .int z] (fun r => r.toInt64) om am C ad J N mst bst ρ σ f := by
  have hn := hI.1.2.2.2.1
  have h5 := hI.1.2.2.2.2.2.2.1
  rcases bin_01 x 0 (σ 5 0 - 1) with hb | hb
  · have hv := bin_n0 (by omega) (h5 ▸ hb)
    have hm := cm_press_b1 l D T om am σ x y z hb
    exact badL hI (lk_press_1 l D T ea mi sa _ _ f x y z (ch_press_b l hfl D T ea mi sa _ ad _ _ _ (N 1) x y z hv) ⟨rfl, rfl⟩) ⟨rfl, rfl, by decide, by decide⟩ (by decide) hm
  · obtain ⟨i, hi, rfl⟩ := bin_n1 (by omega) (h5 ▸ hb)
    obtain ⟨i12, c1, c2⟩ := liB hI hi
    obtain ⟨⟨mo, hmo, b0, s6, bs⟩, ⟨b3, b456⟩, ⟨b7, w7⟩, ⟨b8, w8⟩, b9, ⟨b10, w10⟩, ⟨b11, w11⟩, ⟨b12, w12⟩, ⟨p9, hp9, b13, s15⟩, hld, hpt, har⟩ := hI.2.2.2.2.2.2.2 i hi
    have hn2 := hI.1.2.2.2.2.1
    have h21 := hI.1.2.2.2.2.2.2.2
    have hbs := bst4 hI hi
    rcases bin_01 y 0 (σ 21 0 - 1) with hs | hs
    · have hv2 := bin_n0 (by omega) (h21 ▸ hs)
      have hm := cm_press_b1d l D T om am σ (nI i) y z hb hs
      have hw := lk_press_1 l D T ea mi sa _ (ad 16) f (nI i) y z (ch_press_d l hfl D T ea mi sa (ad 0) ad (ρ 0 0) (ρ 7 0) (ad 21) (cap (N 1)) (N 1) (liF ad (fun i => 100 + 3 * i) (N 1)) (ad (100 + 3 * i)) (ad (101 + 3 * i)) (ad (102 + 3 * i)) (ad (2 + bst i)) (ρ (100 + 3 * i)) i hi c1 c2 (liF_at hi) (ρ 8 0) (if N 2 = 0 then ea else ad 22) (N 2) y z hv2) ⟨rfl, rfl⟩
      have e : iw [0, 7, 21, 100 + 3 * i, 8] ad (hG ad T ea f N mst bst ρ) = B4 ad T N bst ρ i ++ [(ad 8, .inr (0, [.int (ρ 8 0), .ref (if N 2 = 0 then ea else ad 22), .int (nI (N 2))]))] := by
        rw [iw_cons, iw_cons, iw_cons, iw_cons, iw_cons, iw_nil, hG_b i12, hG_7 (by omega)]
        rfl
      refine badJ (js := [0, 7, 21, 100 + 3 * i, 8]) hI ?_ (fun j hj => ?_) e hw ⟨rfl, rfl, by decide, by decide⟩ (by decide) hm
      · simp only [List.nodup_cons, List.mem_cons, List.not_mem_nil, or_false, List.nodup_nil, and_true, not_false_eq_true]
        omega
      · simp only [List.mem_cons, List.not_mem_nil, or_false] at hj
        unfold liv
        omega
    · obtain ⟨d, hd, rfl⟩ := bin_n1 (by omega) (h21 ▸ hs)
      obtain ⟨⟨d1, d2⟩, d3⟩ := hI.2.2.2.2.2.1 d hd
      have e1 := (cap_le (g := N 2) (by omega)).1
      have e2 := (cap_le (g := N 2) (by omega)).2
      have e : iw [0, 7, 21, 100 + 3 * i, 8, 22, 200 + 2 * d] ad (hG ad T ea f N mst bst ρ) = B4 ad T N bst ρ i ++ [(ad 8, .inr (0, [.int (ρ 8 0), .ref (ad 22), .int (nI (N 2))])), (ad 22, .inl (T 3, cap (N 2), qa (liF ad (fun i => 200 + 2 * i) (N 2)))), (ad (200 + 2 * d), .inr (2, [.ref (ad (201 + 2 * d)), .int (ρ (200 + 2 * d) 0)]))] := by
        rw [iw_cons, iw_cons, iw_cons, iw_cons, iw_cons, iw_cons, iw_cons, iw_nil, hG_b i12, hG_7 (by omega), hG_d (by omega), hG_8 (by omega)]
        rfl
      have hnd : [0, 7, 21, 100 + 3 * i, 8, 22, 200 + 2 * d].Nodup := by
        simp only [List.nodup_cons, List.mem_cons, List.not_mem_nil, or_false, List.nodup_nil, and_true, not_false_eq_true]
        omega
      have hlv : ∀ j ∈ [0, 7, 21, 100 + 3 * i, 8, 22, 200 + 2 * d], liv N j := by
        intro j hj
        simp only [List.mem_cons, List.not_mem_nil, or_false] at hj
        unfold liv
        omega
      rcases bin_01 z 1 50 with hz | hz
      · have hg : gth 1 (bin z 1 50) (if σ 14 i = 0 then (if 0 < σ 23 d then 1 else 0) else 0) = 2 := by rw [hz]; rfl
        have hm := cm_press_b2 l D T om am σ i d z i12 (by omega) hb hs (by rw [hg]; decide)
        rw [hg] at hm
        have hw := lk_press_2 l D T ea mi sa _ (ad 16) f (nI i) (nI d) z (ch_press_a l hfl D T ea mi sa (ad 0) ad (ρ 0 0) (ρ 7 0) (ad 21) (cap (N 1)) (N 1) (liF ad (fun i => 100 + 3 * i) (N 1)) (ad (100 + 3 * i)) (ad (101 + 3 * i)) (ad (102 + 3 * i)) (ad (2 + bst i)) (ρ (100 + 3 * i)) i hi c1 c2 (liF_at hi) (ρ 8 0) (ad 22) (cap (N 2)) (N 2) (liF ad (fun i => 200 + 2 * i) (N 2)) (ad (200 + 2 * d)) (ad (201 + 2 * d)) (ρ (200 + 2 * d) 0) d hd e1 e2 (liF_at hd) z (bin0.mp hz)) ⟨rfl, rfl⟩
        exact badJ hI hnd hlv e hw ⟨rfl, rfl, by decide, by decide⟩ (by decide) hm
      · obtain ⟨z1, z2⟩ := bin_k1 hz
        obtain ⟨en, en1, en2, rfl⟩ := nat_of (hi := 50) (by decide) z1 z2
        by_cases hok : σ 14 i = 0 ∧ 0 < σ 23 d
        · obtain ⟨h14, h23⟩ := hok
          obtain ⟨cn, cn1, cn2, cn3⟩ := w8
          have hec : en * cn < 2 ^ 31 := Nat.lt_of_le_of_lt (Nat.mul_le_mul en2 cn2) (by decide)
          have hlf : 0 < ρ (200 + 2 * d) 0 := d1.symm ▸ h23
          have h10 : σ 10 i = nI cn := b8.symm.trans cn3
          have h12 : ρ (100 + 3 * i) 12 = 0 := b12.trans h14
          have hB : 400 + 20 * C < 2 ^ 30 := by omega
          have hb9 : ∀ {v : Int32} {x y : Nat}, nbd x y v → bnd y v := fun ⟨m, _, m2, m3⟩ => ⟨m, m2, m3⟩
          have ha9 : ∀ j, j < 8 → nbd 1 (400 + 20 * C) (ρ (101 + 3 * i) j) := fun j hj => (har j hj).2
          have hg9 : ∀ j, j < 8 → nbd 1 400 (ρ (201 + 2 * d) j) := fun j hj => by rw [(d3 j hj).1]; exact (d3 j hj).2
          have hfa : ∀ x, x < 8 → bnd (400 + 20 * C) (ρ (101 + 3 * i) x) := fun x hx => hb9 (ha9 x hx)
          have hga : ∀ x, x < 8 → bnd (400 + 20 * C) (ρ (201 + 2 * d) x) := fun x hx => hb9 (nbd_le (Nat.le_add_right _ _) (hg9 x hx))
          by_cases hcn : cn < 700
          · have hm := cm_press_crack l D T om am σ i d en cn i12 (by omega) hb hs hz h14 h23 h10 hcn
            refine okP hI hi hd (lk_press l D T ea mi sa _ _ f (nI i) (nI d) (nI en) (zI_H (ch_press_crack l D T _ ad _ _ _ _ _ _ _ _ _ _ _ _ _ _ i hi c1 c2 (liF_at hi) _ _ _ _ _ _ _ _ _ d hd e1 e2 (liF_at hd) en cn en1 en2 cn3 cn2 hec h12 hlf (400 + 20 * C) hB hfa hga hcn)) ⟨rfl, rfl⟩ (fun _ _ _ => rfl) (fun _ => Nat.le_refl _)) ⟨rfl, rfl, by decide, by decide⟩ hm rfl ?_
            exact press_crk hI hi hd
          · have hcn7 : 700 ≤ cn := Nat.not_lt.mp hcn
            have hG : ∀ j, j < 8 → ρ (201 + 2 * d) j = σ 22 (8 * d + j) := fun j hj => (d3 j hj).1
            have hF : ∀ j, j < 8 → ρ (101 + 3 * i) j = σ 7 (8 * i + j) := fun j hj => (har j hj).1
            obtain ⟨f1, f2⟩ := FM_sl hG hF (en * cn / 1000)
            have f3 := FM_nbd (Nat.le_add_right 400 _) hB hg9 ha9 (en * cn / 1000)
            have hCB := cb_sl hB hG f1 (fun j hj => hb9 (f3 j hj)) hga
            obtain ⟨n, n1, n2⟩ := d2
            have hX9 := FB_sl hG f1 (ρ (100 + 3 * i) 4) (ρ (100 + 3 * i) 5) (ρ (100 + 3 * i) 6)
            rw [b456] at hX9
            obtain ⟨a1, a2⟩ := FA_sl hG f1
            by_cases hc9 : cn < 900
            · have w1 : lifv (σ 23 d) 3 = nI (n - 3) := by rw [n2]; exact (lif3 n (by omega)).1
              have w2 : (if 0 < ρ (200 + 2 * d) 0 - 3 then ρ (200 + 2 * d) 0 - 3 else 0) = nI (n - 3) := by rw [d1, n2]; exact (lif3 n (by omega)).2
              have hm := cm_press_ok3 l D T om am σ i d en cn i12 (by omega) hb hs hz h14 h23 h10 hcn7 hc9 en2 cn2 hec (σ 9 i) rfl
              rw [hCB, w1, ← h10] at hm
              by_cases hzz : CL (ρ (201 + 2 * d)) (FM (ρ (201 + 2 * d)) (en * cn / 1000) (ρ (101 + 3 * i))) = 0
              · rw [if_pos hzz, if_pos hzz] at hm
                have hw := lk_press l D T ea mi sa _ (ad 16) f (nI i) (nI d) (nI en) (zI_H (ch_press_ok3z l D T (ad 0) ad (ρ 0 0) (ρ 7 0) (ad 21) (cap (N 1)) (N 1) (liF ad (fun i => 100 + 3 * i) (N 1)) (ad (100 + 3 * i)) (ad (101 + 3 * i)) (ad (102 + 3 * i)) (ad (2 + bst i)) (ρ (100 + 3 * i)) (ρ (101 + 3 * i)) (ρ (102 + 3 * i)) (ρ (2 + bst i)) i hi c1 c2 (liF_at hi) (ρ 8 0) (ad 22) (cap (N 2)) (N 2) (liF ad (fun i => 200 + 2 * i) (N 2)) (ad (200 + 2 * d)) (ad (201 + 2 * d)) (ρ (200 + 2 * d) 0) (ρ (201 + 2 * d)) d hd e1 e2 (liF_at hd) en cn en1 en2 cn3 cn2 hec h12 hlf (400 + 20 * C) hB hfa hga hcn7 hc9 hzz)) ⟨rfl, rfl⟩ (fun _ _ _ => rfl) (fun _ => Nat.le_refl _)
                rw [w2] at hw
                exact okP hI hi hd hw ⟨rfl, rfl, by decide, by decide⟩ hm rfl (press_fin hI hi hd (by show clS (ρ (100 + 3 * i) 7) = _; rw [b7]) (by show wrm (clS (ρ (100 + 3 * i) 7)) (ρ (100 + 3 * i) 8) = _; rw [b7, b8]) (fun k h5 h7 h8 => (upd_ne _ _ h8).trans ((upd_ne _ _ h7).trans (upd_ne _ _ h5))) hX9.symm (fun j hj => ⟨a1 j hj, by rw [KA_at _ _ hj]; exact nbd_le (by omega) (hg9 j hj)⟩) (fun k hk => (a2 k hk).trans (f2 k hk)) ⟨n - 3, by omega, rfl⟩)
              · rw [if_neg hzz, if_neg hzz] at hm
                have hw := lk_press l D T ea mi sa _ (ad 16) f (nI i) (nI d) (nI en) (zI_H (ch_press_ok3n l D T (ad 0) ad (ρ 0 0) (ρ 7 0) (ad 21) (cap (N 1)) (N 1) (liF ad (fun i => 100 + 3 * i) (N 1)) (ad (100 + 3 * i)) (ad (101 + 3 * i)) (ad (102 + 3 * i)) (ad (2 + bst i)) (ρ (100 + 3 * i)) (ρ (101 + 3 * i)) (ρ (102 + 3 * i)) (ρ (2 + bst i)) i hi c1 c2 (liF_at hi) (ρ 8 0) (ad 22) (cap (N 2)) (N 2) (liF ad (fun i => 200 + 2 * i) (N 2)) (ad (200 + 2 * d)) (ad (201 + 2 * d)) (ρ (200 + 2 * d) 0) (ρ (201 + 2 * d)) d hd e1 e2 (liF_at hd) en cn en1 en2 cn3 cn2 hec h12 hlf (400 + 20 * C) hB hfa hga hcn7 hc9 hzz)) ⟨rfl, rfl⟩ (fun _ _ _ => rfl) (fun _ => Nat.le_refl _)
                rw [w2] at hw
                exact okP hI hi hd hw ⟨rfl, rfl, by decide, by decide⟩ hm rfl (press_fin hI hi hd (by show clS (ρ (100 + 3 * i) 7) = _; rw [b7]) (by show wrm (clS (ρ (100 + 3 * i) 7)) (ρ (100 + 3 * i) 8) = _; rw [b7, b8]) (fun k _ h7 h8 => (upd_ne _ _ h8).trans (upd_ne _ _ h7)) b456 (fun j hj => ⟨f1 j hj, nbd_le (by omega) (f3 j hj)⟩) f2 ⟨n - 3, by omega, rfl⟩)

            · have hc99 : 900 ≤ cn := Nat.not_lt.mp hc9
              have w1 : lifv (σ 23 d) 1 = nI (n - 1) := by rw [n2]; exact (lif1 n (by omega)).1
              have w2 : (if 0 < ρ (200 + 2 * d) 0 - 1 then ρ (200 + 2 * d) 0 - 1 else 0) = nI (n - 1) := by rw [d1, n2]; exact (lif1 n (by omega)).2
              have hm := cm_press_ok1 l D T om am σ i d en cn i12 (by omega) hb hs hz h14 h23 h10 hcn7 hc99 en2 cn2 hec (σ 9 i) rfl
              rw [hCB, w1, ← h10] at hm
              by_cases hzz : CL (ρ (201 + 2 * d)) (FM (ρ (201 + 2 * d)) (en * cn / 1000) (ρ (101 + 3 * i))) = 0
              · rw [if_pos hzz, if_pos hzz] at hm
                have hw := lk_press l D T ea mi sa _ (ad 16) f (nI i) (nI d) (nI en) (zI_H (ch_press_ok1z l D T (ad 0) ad (ρ 0 0) (ρ 7 0) (ad 21) (cap (N 1)) (N 1) (liF ad (fun i => 100 + 3 * i) (N 1)) (ad (100 + 3 * i)) (ad (101 + 3 * i)) (ad (102 + 3 * i)) (ad (2 + bst i)) (ρ (100 + 3 * i)) (ρ (101 + 3 * i)) (ρ (102 + 3 * i)) (ρ (2 + bst i)) i hi c1 c2 (liF_at hi) (ρ 8 0) (ad 22) (cap (N 2)) (N 2) (liF ad (fun i => 200 + 2 * i) (N 2)) (ad (200 + 2 * d)) (ad (201 + 2 * d)) (ρ (200 + 2 * d) 0) (ρ (201 + 2 * d)) d hd e1 e2 (liF_at hd) en cn en1 en2 cn3 cn2 hec h12 hlf (400 + 20 * C) hB hfa hga hcn7 hc99 hzz)) ⟨rfl, rfl⟩ (fun _ _ _ => rfl) (fun _ => Nat.le_refl _)
                rw [w2] at hw
                exact okP hI hi hd hw ⟨rfl, rfl, by decide, by decide⟩ hm rfl (press_fin hI hi hd (by show clS (ρ (100 + 3 * i) 7) = _; rw [b7]) (by show wrm (clS (ρ (100 + 3 * i) 7)) (ρ (100 + 3 * i) 8) = _; rw [b7, b8]) (fun k h5 h7 h8 => (upd_ne _ _ h8).trans ((upd_ne _ _ h7).trans (upd_ne _ _ h5))) hX9.symm (fun j hj => ⟨a1 j hj, by rw [KA_at _ _ hj]; exact nbd_le (by omega) (hg9 j hj)⟩) (fun k hk => (a2 k hk).trans (f2 k hk)) ⟨n - 1, by omega, rfl⟩)
              · rw [if_neg hzz, if_neg hzz] at hm
                have hw := lk_press l D T ea mi sa _ (ad 16) f (nI i) (nI d) (nI en) (zI_H (ch_press_ok1n l D T (ad 0) ad (ρ 0 0) (ρ 7 0) (ad 21) (cap (N 1)) (N 1) (liF ad (fun i => 100 + 3 * i) (N 1)) (ad (100 + 3 * i)) (ad (101 + 3 * i)) (ad (102 + 3 * i)) (ad (2 + bst i)) (ρ (100 + 3 * i)) (ρ (101 + 3 * i)) (ρ (102 + 3 * i)) (ρ (2 + bst i)) i hi c1 c2 (liF_at hi) (ρ 8 0) (ad 22) (cap (N 2)) (N 2) (liF ad (fun i => 200 + 2 * i) (N 2)) (ad (200 + 2 * d)) (ad (201 + 2 * d)) (ρ (200 + 2 * d) 0) (ρ (201 + 2 * d)) d hd e1 e2 (liF_at hd) en cn en1 en2 cn3 cn2 hec h12 hlf (400 + 20 * C) hB hfa hga hcn7 hc99 hzz)) ⟨rfl, rfl⟩ (fun _ _ _ => rfl) (fun _ => Nat.le_refl _)
                rw [w2] at hw
                exact okP hI hi hd hw ⟨rfl, rfl, by decide, by decide⟩ hm rfl (press_fin hI hi hd (by show clS (ρ (100 + 3 * i) 7) = _; rw [b7]) (by show wrm (clS (ρ (100 + 3 * i) 7)) (ρ (100 + 3 * i) 8) = _; rw [b7, b8]) (fun k _ h7 h8 => (upd_ne _ _ h8).trans (upd_ne _ _ h7)) b456 (fun j hj => ⟨f1 j hj, nbd_le (by omega) (f3 j hj)⟩) f2 ⟨n - 1, by omega, rfl⟩)

        · have e0 : (if σ 14 i = 0 then (if 0 < σ 23 d then (1 : Int32) else 0) else 0) = 0 := by
            by_cases h : σ 14 i = 0
            · rw [if_pos h, if_neg (fun q => hok ⟨h, q⟩)]
            · rw [if_neg h]
          have hg : gth 1 (bin (nI en) 1 50) (if σ 14 i = 0 then (if 0 < σ 23 d then 1 else 0) else 0) = 3 := by rw [hz, e0]; rfl
          have hm := cm_press_b2 l D T om am σ i d (nI en) i12 (by omega) hb hs (by rw [hg]; decide)
          rw [hg] at hm
          have hw := lk_press_3 l D T ea mi sa _ (ad 16) f (nI i) (nI d) (nI en) (ch_press_w l hfl D T ea mi sa (ad 0) ad (ρ 0 0) (ρ 7 0) (ad 21) (cap (N 1)) (N 1) (liF ad (fun i => 100 + 3 * i) (N 1)) (ad (100 + 3 * i)) (ad (101 + 3 * i)) (ad (102 + 3 * i)) (ad (2 + bst i)) (ρ (100 + 3 * i)) i hi c1 c2 (liF_at hi) (ρ 8 0) (ad 22) (cap (N 2)) (N 2) (liF ad (fun i => 200 + 2 * i) (N 2)) (ad (200 + 2 * d)) (ad (201 + 2 * d)) (ρ (200 + 2 * d) 0) d hd e1 e2 (liF_at hd) (nI en) z1 z2 (by
            by_cases h : σ 14 i = 0
            · exact Or.inr (fun q => hok ⟨h, d1 ▸ q⟩)
            · exact Or.inl (fun q => h (b12.symm.trans q)))) ⟨rfl, rfl⟩
          exact badJ hI hnd hlv e hw ⟨rfl, rfl, by decide, by decide⟩ (by decide) hm
end ST9
