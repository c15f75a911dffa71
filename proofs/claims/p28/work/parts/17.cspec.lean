/-! ===== the class: a billet's cells, with its steel; with a die ===== -/
abbrev biF (a q u : Nat) (β : Nat → Int32) : List Value := [.int (β 0), .ref u, .ref a, .int (β 3), .int (β 4), .int (β 5), .int (β 6), .int (β 7), .int (β 8), .int (β 9), .int (β 10), .int (β 11), .int (β 12), .int (β 13), .int (β 14), .ref q, .int (β 16), .int (β 17)]
abbrev biW (h a q u : Nat) (T : Nat → ClassId) (β α κ τ : Nat → Int32) : va_W := [(h, .inr (1, biF a q u β)), (a, .inl (T 0, 8, .inl α)), (q, .inl (T 0, 8, .inl κ)), (u, .inr (5, [.int (τ 0), .int (τ 1), .int (τ 2)]))]
abbrev bidW (h a q u d da : Nat) (T : Nat → ClassId) (β α κ τ : Nat → Int32) (lf : Int32) (γ : Nat → Int32) : va_W := [(h, .inr (1, biF a q u β)), (a, .inl (T 0, 8, .inl α)), (q, .inl (T 0, 8, .inl κ)), (u, .inr (5, [.int (τ 0), .int (τ 1), .int (τ 2)])), (d, .inr (2, [.ref da, .int lf])), (da, .inl (T 0, 8, .inl γ))]
/-- numbers that are natural and not large -/
def bnd (B : Nat) (v : Int32) : Prop := ∃ n : Nat, n ≤ B ∧ v = nI n
theorem bnd_sub {B : Nat} (hB : B < 2 ^ 30) {a b : Int32} (ha : bnd B a) (hb : bnd B b) : (0 < a - b ↔ b < a) ∧ (a - b < 0 ↔ a < b) := by
  obtain ⟨x, hx, rfl⟩ := ha
  obtain ⟨y, hy, rfl⟩ := hb
  have e := pk_sub_toInt (a := x) (b := y) (by omega) (by omega)
  have ex := nI_toInt (n := x) (by omega)
  have ey := nI_toInt (n := y) (by omega)
  have e0 : (0 : Int32).toInt = 0 := Int32.toInt_zero
  constructor
  · rw [Int32.lt_iff_toInt_lt, Int32.lt_iff_toInt_lt, e, ex, ey, e0]
    omega
  · rw [Int32.lt_iff_toInt_lt, Int32.lt_iff_toInt_lt, e, ex, ey, e0]
    omega
theorem ov_pos {B : Nat} (hB : B < 2 ^ 30) {f g : Nat → Int32} (hf : ∀ x, x < 8 → bnd B (f x)) (hg : ∀ x, x < 8 → bnd B (g x)) {x : Nat} (hx : x < 8) : (0 < ovr f g 0 0 x ↔ g x < f x) ∧ (ovr f g 0 0 x < 0 ↔ f x < g x) := by
  unfold ovr
  rw [Nat.zero_add]
  exact bnd_sub hB (hf x hx) (hg x hx)
theorem gr_min {g : Nat} (h : g ≤ 200) : (if nI g + 1 < 200 then nI g + 1 else (200 : Int32)) = if nI g < 200 then nI g + 1 else nI g := by
  rw [nI_1]
  by_cases c : g < 199
  · have h1 : nI (g + 1) < (200 : Int32) := nI_lt (a := g + 1) (b := 200) (by omega) (by decide)
    have h2 : nI g < (200 : Int32) := nI_lt (a := g) (b := 200) (by omega) (by decide)
    rw [if_pos h1, if_pos h2]
  · have h1 : ¬ nI (g + 1) < (200 : Int32) := nI_nlt (a := g + 1) (b := 200) (by omega) (by omega)
    rw [if_neg h1]
    by_cases c2 : g = 199
    · subst c2
      rfl
    · have e : g = 200 := by omega
      subst e
      rfl
theorem hGr_le (f sk co : Int32) {gr : Int32} (h : bnd 200 gr) : ∀ n, bnd 200 (hGr f sk co gr n)
  | 0 => h
  | n + 1 => by
    have ih := hGr_le f sk co h n
    rw [hGr]
    split
    · split
      · exact ih
      · split
        · next c =>
          obtain ⟨g, hg, e⟩ := ih
          rw [e] at c ⊢
          have := (nI_ltI (b := 200) (show g < 2 ^ 31 by omega) (by decide)).mp c
          exact ⟨g + 1, by omega, nI_1 g⟩
        · exact ih
    · exact ih
def hrc (q t : Int32) : Int32 := if 0 < q - (t - 100) / 20 then q - (t - 100) / 20 else 0
def lhc (v : Nat → Int32) : Nat → Int32
  | 0 => v 0
  | n + 1 => if v (n + 1) < lhc v n then v (n + 1) else lhc v n
theorem LH_ex : ∃ F : (Nat → Int32) → Int32, ∀ v, F v = lhc v 7 := ⟨fun v => lhc v 7, fun _ => rfl⟩
noncomputable def LH : (Nat → Int32) → Int32 := Classical.choose LH_ex
theorem LH_eq (v : Nat → Int32) : LH v = lhc v 7 := Classical.choose_spec LH_ex v
/-- what is cut as flash: the areas of the die -/
def flK (γ : Nat → Int32) (f : Nat → Int32) : Nat → (Nat → Int32)
  | 0 => f
  | n + 1 => upd (flK γ f n) (0 + n) (γ (0 + n))
def flX (γ : Nat → Int32) (f : Nat → Int32) (x : Int32) : Nat → Int32
  | 0 => x
  | n + 1 => flX γ f x n + (flK γ f n (0 + n) - γ (0 + n))
theorem KA_ex : ∃ F : (Nat → Int32) → (Nat → Int32) → (Nat → Int32), ∀ g f, F g f = flK g f 8 := ⟨fun g f => flK g f 8, fun _ _ => rfl⟩
noncomputable def KA : (Nat → Int32) → (Nat → Int32) → (Nat → Int32) := Classical.choose KA_ex
theorem KA_eq (g f : Nat → Int32) : KA g f = flK g f 8 := Classical.choose_spec KA_ex g f
theorem KX_ex : ∃ F : (Nat → Int32) → (Nat → Int32) → Int32 → Int32, ∀ g f x, F g f x = flX g f x 8 := ⟨fun g f x => flX g f x 8, fun _ _ _ => rfl⟩
noncomputable def KX : (Nat → Int32) → (Nat → Int32) → Int32 → Int32 := Classical.choose KX_ex
theorem KX_eq (g f : Nat → Int32) (x : Int32) : KX g f x = flX g f x 8 := Classical.choose_spec KX_ex g f x
/-- how many are below the die -/
def cbl (γ f : Nat → Int32) : Nat → Int32
  | 0 => 0
  | n + 1 => if f (0 + n) < γ (0 + n) then cbl γ f n + 1 else cbl γ f n
theorem CL_ex : ∃ F : (Nat → Int32) → (Nat → Int32) → Int32, ∀ g f, F g f = cbl g f 8 := ⟨fun g f => cbl g f 8, fun _ _ => rfl⟩
noncomputable def CL : (Nat → Int32) → (Nat → Int32) → Int32 := Classical.choose CL_ex
theorem CL_eq (g f : Nat → Int32) : CL g f = cbl g f 8 := Classical.choose_spec CL_ex g f
/-- the flow into a die, of one billet's own rows -/
def ov0 (f g : Nat → Int32) (j : Nat) : Int32 := f j - g j
theorem ov0_eq (f g : Nat → Int32) : ov0 f g = ovr f g 0 0 := by
  funext j
  unfold ov0 ovr
  rw [Nat.zero_add]
noncomputable def flo0 (g : Nat → Int32) (s : Nat) : Nat → (Nat → Int32) → (Nat → Int32) × Nat
  | 0, f => (f, 0)
  | n + 1, f => if GV (ov0 f g) s = -1 then (f, n + 1) else if ov0 f g s < 0 then flo0 g s n (upd (upd f (GV (ov0 f g) s).toNatClampNeg (f (GV (ov0 f g) s).toNatClampNeg - 1)) s (upd f (GV (ov0 f g) s).toNatClampNeg (f (GV (ov0 f g) s).toNatClampNeg - 1) s + 1)) else (f, n + 1)
noncomputable def fls0 (g : Nat → Int32) : Nat → Nat → (Nat → Int32) → (Nat → Int32)
  | 0, _, f => f
  | n + 1, m, f => fls0 g n (flo0 g (7 - n) m f).2 (flo0 g (7 - n) m f).1
theorem flo0_eq (g : Nat → Int32) (s : Nat) : ∀ n f, flo0 g s n f = flo g 0 0 s n f
  | 0, _ => rfl
  | n + 1, f => by
    rw [flo0, flo, ov0_eq, Nat.zero_add, Nat.zero_add]
    split
    · rfl
    · split
      · exact flo0_eq g s n _
      · rfl
theorem fls0_eq (g : Nat → Int32) : ∀ n m f, fls0 g n m f = fls g 0 0 n m f
  | 0, _, _ => rfl
  | n + 1, m, f => by
    rw [fls0, fls, flo0_eq]
    exact fls0_eq g n _ _
theorem FM_ex : ∃ F : (Nat → Int32) → Nat → (Nat → Int32) → (Nat → Int32), ∀ g m f, F g m f = fls0 g 8 m f := ⟨fun g m f => fls0 g 8 m f, fun _ _ _ => rfl⟩
noncomputable def FM : (Nat → Int32) → Nat → (Nat → Int32) → (Nat → Int32) := Classical.choose FM_ex
theorem FM_eq (g : Nat → Int32) (m : Nat) (f : Nat → Int32) : FM g m f = fls0 g 8 m f := Classical.choose_spec FM_ex g m f
theorem FM_FL (g : Nat → Int32) (m : Nat) (f : Nat → Int32) : FM g m f = FL g 0 0 m f := by
  rw [FM_eq, FL_eq, fls0_eq]
theorem gvr_none (ov : Nat → Int32) (s : Nat) (hs : s < 8) : ∀ n, n ≤ 7 → gvr ov s n = -1 → ∀ y, 8 - n ≤ y → y ≤ 7 → (y ≤ s → ¬ 0 < ov (s - y)) ∧ (s + y < 8 → ¬ 0 < ov (s + y))
  | 0, _, _, y, h1, h2 => by omega
  | n + 1, hn, h, y, h1, h2 => by
    rw [gvr] at h
    have g2 : gv2 ov s (7 - n) (gvr ov s n) = -1 → gvr ov s n = -1 ∧ (s + (7 - n) < 8 → ¬ 0 < ov (s + (7 - n))) := by
      intro q
      unfold gv2 at q
      split at q
      · split at q
        · next c _ => exact absurd q (nI_nm1 (by omega))
        · next c1 c2 => exact ⟨q, fun _ => c2⟩
      · next c => exact ⟨q, fun z => absurd z c⟩
    have key : gvr ov s n = -1 ∧ (s + (7 - n) < 8 → ¬ 0 < ov (s + (7 - n))) ∧ (7 - n ≤ s → ¬ 0 < ov (s - (7 - n))) := by
      split at h
      · next c => exact ⟨(g2 h).1, (g2 h).2, fun z => by omega⟩
      · split at h
        · exact absurd h (nI_nm1 (by omega))
        · next c => exact ⟨(g2 h).1, (g2 h).2, fun _ => c⟩
    by_cases e : y = 7 - n
    · subst e
      exact ⟨key.2.2, key.2.1⟩
    · exact gvr_none ov s hs n (by omega) key.1 y (by omega) h2
theorem GV_none {ov : Nat → Int32} {s : Nat} (hs : s < 8) (h : GV ov s = -1) (h0 : ¬ 0 < ov s) : ∀ x, x < 8 → ¬ 0 < ov x := by
  intro x hx
  rw [GV_eq] at h
  by_cases e : x = s
  · rw [e]; exact h0
  · by_cases l : x < s
    · have := (gvr_none ov s hs 7 (Nat.le_refl 7) h (s - x) (by omega) (by omega)).1 (by omega)
      rw [show s - (s - x) = x by omega] at this
      exact this
    · have := (gvr_none ov s hs 7 (Nat.le_refl 7) h (x - s) (by omega) (by omega)).2 (by omega)
      rw [show s + (x - s) = x by omega] at this
      exact this
theorem fls0_stuck {g f : Nat → Int32} (h : ∀ x, x < 8 → ¬ 0 < ov0 f g x) : ∀ n m, n ≤ 8 → fls0 g n m f = f
  | 0, _, _ => rfl
  | n + 1, m, hn => by
    have e : flo0 g (7 - n) m f = (f, m) := by
      cases m with
      | zero => rfl
      | succ m =>
        have hG : GV (ov0 f g) (7 - n) = -1 := by
          rcases GV_cases (ov0 f g) (7 - n) (by omega) with q | ⟨q, hq, -, h0, -⟩
          · exact q
          · exact absurd h0 (h q hq)
        rw [flo0, if_pos hG]
    rw [fls0, e]
    exact fls0_stuck h n m (by omega)
theorem ov0_pos {B : Nat} (hB : B < 2 ^ 30) {f g : Nat → Int32} (hf : ∀ x, x < 8 → bnd B (f x)) (hg : ∀ x, x < 8 → bnd B (g x)) {x : Nat} (hx : x < 8) : (0 < ov0 f g x ↔ g x < f x) ∧ (ov0 f g x < 0 ↔ f x < g x) := bnd_sub hB (hf x hx) (hg x hx)
theorem flo0_stop {g f : Nat → Int32} {s n : Nat} (h : ¬ ov0 f g s < 0) : flo0 g s (n + 1) f = (f, n + 1) := by
  rw [flo0]
  by_cases c : GV (ov0 f g) s = -1
  · rw [if_pos c]
  · rw [if_neg c, if_neg h]
theorem bnd_move {B : Nat} (hB : B < 2 ^ 30) {f g : Nat → Int32} (hf : ∀ x, x < 8 → bnd B (f x)) (hg : ∀ x, x < 8 → bnd B (g x)) {q k : Nat} (hq : q < 8) (hk : k < 8) (hqk : q ≠ k) (h1 : g q < f q) (h2 : f k < g k) : ∀ x, x < 8 → bnd B (upd (upd f q (f q - 1)) k (upd f q (f q - 1) k + 1) x) := by
  intro x hx
  by_cases e : x = k
  · subst e
    rw [upd_same, upd_ne _ _ (Ne.symm hqk)]
    obtain ⟨a, ha, ea⟩ := hf x hx
    obtain ⟨b, hb, eb⟩ := hg x hx
    rw [ea, eb] at h2
    have := (nI_ltI (by omega) (by omega)).mp h2
    exact ⟨a + 1, by omega, by rw [ea, nI_1]⟩
  · rw [upd_ne _ _ e]
    by_cases e2 : x = q
    · subst e2
      rw [upd_same]
      obtain ⟨a, ha, ea⟩ := hf x hx
      obtain ⟨b, hb, eb⟩ := hg x hx
      rw [ea, eb] at h1
      have := (nI_ltI (by omega) (by omega)).mp h1
      refine ⟨a - 1, by omega, ?_⟩
      rw [ea]
      obtain ⟨c, rfl⟩ : ∃ c, a = c + 1 := ⟨a - 1, by omega⟩
      rw [Nat.add_sub_cancel]
      exact nI_pred c
    · rw [upd_ne _ _ e2]
      exact hf x hx
/-! contracts that need the links among nest mates -/
def zN (U : State) : Prop := va_Nw (.methodLinkNest RX0 133 yX5_neighbourOf RX5) U ∧ va_Nw (.methodLinkNest RX0 78 yX5_isMoreThanThrice RX5) U
theorem zN.same {u U : State} (h : u.vm = U.vm) (hN : zN u) : zN U := ⟨va_Nw.same rfl h hN.1, va_Nw.same rfl h hN.2⟩
theorem zN.warm {s U : State} (hW : s.WarmedH U.vm) (hN : zN s) : zN U := ⟨va_Nw.warmM hW hN.1, va_Nw.warmM hW hN.2⟩
def ZIN (l : Launch) (y : MethodName) (ws : List Cond) (rm : Room) (D : va_G) (T : Nat → ClassId) (w w' : va_W) (as : List Value) (rv : Int32) (mc ms : Nat) : Prop := ∀ sz : Nat, Met l y ws rm (va_Pc as (fun U => zPre D T w sz U ∧ zN U)) (zQI D T w w' rv sz) mc ms (zA (w.map Prod.fst) sz)
def ZVN (l : Launch) (y : MethodName) (ws : List Cond) (rm : Room) (D : va_G) (T : Nat → ClassId) (w w' : va_W) (as : List Value) (mc ms : Nat) : Prop := ∀ sz : Nat, Met l y ws rm (va_Pc as (fun U => zPre D T w sz U ∧ zN U)) (zQV D T w w' sz) mc ms (zA (w.map Prod.fst) sz)
theorem z_blindN {as : List Value} {D : va_G} {T : Nat → ClassId} {w : va_W} {sz : Nat} : FrameBlind (va_Pc as (fun U => zPre D T w sz U ∧ zN U)) := fun a U g mk q => by
  obtain ⟨q0, ⟨q1, qP, qK, qD⟩, qN⟩ := q
  exact ⟨q0, ⟨q1, qP, va_K.moved (u := U) (U := U.calling g mk a) (Vm.Alike.refl U.vm) qK, qD⟩, qN.same rfl⟩
theorem z_inIN {l : Launch} {y : MethodName} {ws ws' : List Cond} {rm : Room} {D : va_G} {T : Nat → ClassId} {w w' : va_W} {as : List Value} {rv : Int32} {mc ms : Nat} {cc : ByteArray} {maxL : Nat} {rt : FieldType}
    (hy : plainName y.cls = true) (hw : ws = Cond.code y cc maxL (some rt) :: ws') (hlen : (lg_sl as).length ≤ maxL)
    (body : ∀ (p : Program) (e : Env) (s : State) (m : MethodId) (args : Array Value) (below : List Frame) (meth : Method) (c : Code) (ls : Array Slot) (A : Nat → Prop) (Q : State → Prop), zC p s m args c cc maxL y.cls ws D T A → zN s → meth.name = y.name → zM D A s.heap w s.heap [] → lv_has ls maxL (lv_args 0 as) →
      (∀ (H : Heap) (locs : List Loc) (cells slots pc : Nat) (ls : Array Slot) (v : Int32) (wf : va_W), zM D A s.heap wf H locs → wf = w' → v = rv → narrow rt (.int v) = .int v → cells ≤ mc → slots ≤ ms → decode cc pc = .ok (.ireturn, 1) → W p l e rm s m args below meth c H locs cells slots Q (F0 m pc ls [.int v])) →
      W p l e rm s m args below meth c s.heap [] 0 0 Q (F0 m 0 ls [])) : ZIN l y ws rm D T w w' as rv mc ms := by
  intro sz
  refine Met.ofW (cc := cc) (maxL := maxL) (ret := some rt) hy hw ?_
  intro p e s m args below meth c s₁ B hml hv
  obtain ⟨rfl, ⟨hsz, hP, hK, hD0⟩, hN⟩ := hv
  subst hsz
  rw [lg_entry_eq]
  have Z : zC p s m as.toArray c cc maxL y.cls ws D T (zA (w.map Prod.fst) s.heap.size) := ⟨⟨B.exec, B.bytes, hml, findClass_of_methodNamed B.named, atoms_spec (ws := ws) B.pre⟩, hK, fun q h => Or.inr h⟩
  exact body p e s m _ below meth c _ _ _ Z hN (name_of_methodNamed B.named B.method).1 ⟨hP, zA_self hD0, va_S.rf⟩ (lv_entry as hlen) (fun H locs cells slots pc ls v wf M9 h1 h2 h3 h4 h5 hd => z_zret Z B.returns h3 B.notSynchronized rfl M9 h1 h2 h4 h5 hd)
theorem z_inVN {l : Launch} {y : MethodName} {ws ws' : List Cond} {rm : Room} {D : va_G} {T : Nat → ClassId} {w w' : va_W} {as : List Value} {mc ms : Nat} {cc : ByteArray} {maxL : Nat}
    (hy : plainName y.cls = true) (hw : ws = Cond.code y cc maxL none :: ws') (hlen : (lg_sl as).length ≤ maxL)
    (body : ∀ (p : Program) (e : Env) (s : State) (m : MethodId) (args : Array Value) (below : List Frame) (meth : Method) (c : Code) (ls : Array Slot) (A : Nat → Prop) (Q : State → Prop), zC p s m args c cc maxL y.cls ws D T A → zN s → meth.name = y.name → zM D A s.heap w s.heap [] → lv_has ls maxL (lv_args 0 as) →
      (∀ (H : Heap) (locs : List Loc) (cells slots pc : Nat) (ls : Array Slot) (wf : va_W), zM D A s.heap wf H locs → wf = w' → cells ≤ mc → slots ≤ ms → decode cc pc = .ok (.return_, 1) → W p l e rm s m args below meth c H locs cells slots Q (F0 m pc ls [])) →
      W p l e rm s m args below meth c s.heap [] 0 0 Q (F0 m 0 ls [])) : ZVN l y ws rm D T w w' as mc ms := by
  intro sz
  refine Met.ofW (cc := cc) (maxL := maxL) (ret := none) hy hw ?_
  intro p e s m args below meth c s₁ B hml hv
  obtain ⟨rfl, ⟨hsz, hP, hK, hD0⟩, hN⟩ := hv
  subst hsz
  rw [lg_entry_eq]
  have Z : zC p s m as.toArray c cc maxL y.cls ws D T (zA (w.map Prod.fst) s.heap.size) := ⟨⟨B.exec, B.bytes, hml, findClass_of_methodNamed B.named, atoms_spec (ws := ws) B.pre⟩, hK, fun q h => Or.inr h⟩
  exact body p e s m _ below meth c _ _ _ Z hN (name_of_methodNamed B.named B.method).1 ⟨hP, zA_self hD0, va_S.rf⟩ (lv_entry as hlen) (fun H locs cells slots pc ls wf M9 h1 h4 h5 hd => z_vret Z B.returns B.notSynchronized rfl M9 h1 h4 h5 hd)
section ZNC
variable {p : Program} {l : Launch} {e : Env} {R : Room} {s : State} {m : MethodId} {args : Array Value} {below : List Frame} {meth : Method} {c : Code} {H : Heap} {locs : List Loc} {cells slots : Nat} {Q : State → Prop}
variable {cc : ByteArray} {nL : Nat} {own C host : String} {Ts : List Cond} {D : va_G} {T : Nat → ClassId} {A : Nat → Prop} {ws : va_W} {pc : Nat} {ls : Array Slot} {rest : List Value}
variable {y : MethodName} {bytes : ByteArray} {maxL index n mc ms b : Nat} {ret : Option FieldType} {wsy : List Cond} {rm : Room} {wc' : va_W} {rv : Int32} {As : List Value}
theorem z_callSiN (S : CallFix p m c cc nL s args Ts own) (hM : ZS l y wsy rm As rv) (cw : va_CN R s args own index y host bytes maxL ret wsy rm 0 0 n ∧ (Cond.static y).before args s = true ∧ True) (hn : As.length = n) (hls : ls.size = nL) (hW : (rest.map fun v => v.category).sum ≤ 8) (hdg : decode cc pc = .ok (.invokestatic index, 3)) (hroom : cells ≤ R.cells ∧ slots ≤ R.slots) {st : List Value} (hst : st = As.reverse ++ rest)
    (kk : W p l e R s m args below meth c H locs cells slots Q (F0 m (pc + 3) ls (.int rv :: rest))) : W p l e R s m args below meth c H locs cells slots Q (F0 m pc ls st) := by
  subst hst
  have hr := va_runSN (p := p) (l := l) (e := e) (R := R) (s := s) (m := m) (args := args) (below := below) (meth := meth) (c := c) (H := H) (locs := locs) (cells := cells) (slots := slots) (g := F0 m pc ls (As.reverse ++ rest)) (As := As) (rest := rest) S hM cw ⟨fun a U g mk q => q, fun U hU hW => rfl⟩ rfl hn hls rfl (lv_room hW) hdg hroom
  intro T9 hT X
  obtain ⟨v, st₀, t, T', L, h0, X', hL, e1, e2, ⟨hq1, hq2⟩, go⟩ := hr T9 hT X
  cases hq1
  have hL0 : L = [] := by
    cases L with
    | nil => rfl
    | cons a b => exact absurd (hL a List.mem_cons_self) (fun h => h)
  subst hL0
  rw [List.append_nil] at X'
  have hH : T'.heap = H := by rw [e1, hq2, h0]
  obtain ⟨t2, a1, b1⟩ := kk T' hH X'
  exact ⟨t2, go t2 a1, b1⟩
theorem z_callAiN (Z : zC p s m args c cc nL own Ts D T A) (hN : zN s) (M : zM D A s.heap ws H locs) (hM : ZIN l y wsy rm D T ws wc' (.ref b :: As) rv mc ms) (cw : CallW R s args own C index y bytes maxL ret wsy rm mc ms n)
    (hrecv : ∃ cell : Cell, H[b]? = some cell ∧ cell.vm.isStatics = false ∧ s.vm.findClass C = some cell.cls) (hn : As.length = n) (hls : ls.size = nL) (hW : (rest.map fun v => v.category).sum ≤ 8) (hdg : decode cc pc = .ok (.invokevirtual index, 3)) (hroom : cells + mc ≤ R.cells ∧ slots + ms ≤ R.slots) {st : List Value} (hst : st = As.reverse ++ .ref b :: rest)
    (kk : ∀ (H1 : Heap) (locs1 : List Loc), zM D A s.heap wc' H1 locs1 → W p l e R s m args below meth c H1 locs1 (cells + mc) (slots + ms) Q (F0 m (pc + 3) ls (.int rv :: rest))) :
    W p l e R s m args below meth c H locs cells slots Q (F0 m pc ls st) := by
  subst hst
  obtain ⟨S, hK, hA⟩ := Z
  obtain ⟨hP, hD, hS⟩ := M
  have hF : ∀ q, zA (ws.map Prod.fst) H.size q → A q := by
    intro q h
    rcases h with h | h
    · obtain ⟨x, hx, rfl⟩ := List.mem_map.mp h
      obtain ⟨j, hj⟩ := List.getElem?_of_mem hx
      exact hD.2 j x hj
    · exact hA q (Nat.le_trans hS.1 h)
  refine va_calli (va_runV (As := As) (rest := rest) S (hM H.size) cw ⟨z_blindN, hrecv, fun U hU hW => ⟨rfl, ⟨by rw [hU], by rw [hU]; exact hP, va_K.moved hW.alike hK, hD.weaken (fun _ _ _ _ => trivial)⟩, hN.warm hW⟩⟩ rfl hn hls rfl (lv_room hW) hdg hroom) hS (fun q _ h => hF q h) hF (fun r u t H1 locs1 ht hvm hw hB hz1 hk1 hS1 => ?_)
  obtain ⟨hP1, hK1, hD1⟩ := hB
  rw [ht] at hP1
  have hw : r = rv := hw
  subst hw
  exact kk H1 locs1 ⟨hP1, hD1.weaken (fun _ q _ h => hF q.1 h), hS1⟩
end ZNC
theorem i32_tri {x y : Int32} (h1 : ¬ x < y) (h2 : ¬ y < x) : x = y := Int32.le_antisymm (Int32.not_lt.mp h2) (Int32.not_lt.mp h1)
theorem min_imin (x y : Int32) : (if y < x then y else x) = imin x y := by
  unfold imin
  by_cases h : y < x
  · rw [if_pos h, if_neg (Int32.not_lt.mpr (Int32.le_of_lt h))]
  · rw [if_neg h]
    by_cases h2 : x < y
    · rw [if_pos h2]
    · rw [if_neg h2]
      exact i32_tri h2 h
theorem max_low (c x : Int32) : (if c < x then x else c) = if x < c then c else x := by
  by_cases h : c < x
  · rw [if_pos h, if_neg (Int32.not_lt.mpr (Int32.le_of_lt h))]
  · rw [if_neg h]
    by_cases h2 : x < c
    · rw [if_pos h2]
    · rw [if_neg h2]
      exact i32_tri h h2
def une (f : Nat → Int32) : Nat → Int32
  | 0 => 0
  | n + 1 => if 3 * f (nbr (7 - n)) < f (7 - n) then 1 else if 3 * f (7 - n) < f (nbr (7 - n)) then 1 else une f n
theorem UE_ex : ∃ F : (Nat → Int32) → Int32, ∀ f, F f = une f 8 := ⟨fun f => une f 8, fun _ => rfl⟩
noncomputable def UE : (Nat → Int32) → Int32 := Classical.choose UE_ex
theorem UE_eq (f : Nat → Int32) : UE f = une f 8 := Classical.choose_spec UE_ex f
abbrev plW (pl pa : Nat) (T : Nat → ClassId) (ω : Nat → Int32) (wt fu : Int32) : va_W := [(pl, .inr (4, [.ref pa, .int wt, .int fu])), (pa, .inl (T 0, 12, .inl ω))]
abbrev ptW (pt a0 a1 a2 : Nat) (T : Nat → ClassId) (f0 f1 f2 : Nat → Int32) : va_W := [(pt, .inr (3, [.ref a0, .ref a1, .ref a2])), (a0, .inl (T 0, 256, .inl f0)), (a1, .inl (T 0, 256, .inl f1)), (a2, .inl (T 0, 256, .inl f2))]
