/-! ===== numbers: what the methods compute ===== -/
def bin (v lo hi : Int32) : Int32 := if v < lo then 0 else if hi < v then 0 else 1
theorem bin_n (v lo hi : Int32) : narrow .boolean (.int (bin v lo hi)) = .int (bin v lo hi) := by
  unfold bin
  split
  · rfl
  · split <;> rfl
def imin (a b : Int32) : Int32 := if a < b then a else b
def nbr (k : Nat) : Nat := if k = 7 then k - 1 else k + 1
theorem nbr_lt {k : Nat} (h : k < 8) : nbr k < 8 := by
  unfold nbr
  split <;> omega
def gth (f s t : Int32) : Int32 := if f = 0 then 1 else if s = 0 then 2 else if t = 0 then 3 else 0
def upS (σ : Nat → Nat → Int32) (k : Nat) (f : Nat → Int32) : Nat → Nat → Int32 := fun a => if a = k then f else σ a
def vol (f : Nat → Int32) (b : Nat) : Nat → Int32
  | 0 => 0
  | n + 1 => vol f b n + f (b + n)
theorem VO_ex : ∃ F : (Nat → Int32) → (Nat) → Int32, ∀ (f : Nat → Int32) (b : Nat), F f b = vol f b 8 := ⟨fun f b => vol f b 8, fun _ _ => rfl⟩
noncomputable def VO : (Nat → Int32) → (Nat) → Int32 := Classical.choose VO_ex
theorem VO_eq (f : Nat → Int32) (b : Nat) : VO f b = vol f b 8 := Classical.choose_spec VO_ex f b
def sclA (f : Nat → Int32) (b : Nat) : Nat → (Nat → Int32)
  | 0 => f
  | n + 1 => if 1 < sclA f b n (b + n) then upd (sclA f b n) (b + n) (sclA f b n (b + n) - 1) else sclA f b n
theorem SA_ex : ∃ F : (Nat → Int32) → (Nat) → (Nat → Int32), ∀ (f : Nat → Int32) (b : Nat), F f b = sclA f b 8 := ⟨fun f b => sclA f b 8, fun _ _ => rfl⟩
noncomputable def SA : (Nat → Int32) → (Nat) → (Nat → Int32) := Classical.choose SA_ex
theorem SA_eq (f : Nat → Int32) (b : Nat) : SA f b = sclA f b 8 := Classical.choose_spec SA_ex f b
def sclN (f : Nat → Int32) (b : Nat) (x : Int32) : Nat → Int32
  | 0 => x
  | n + 1 => if 1 < sclA f b n (b + n) then sclN f b x n + 1 else sclN f b x n
theorem SN_ex : ∃ F : (Nat → Int32) → (Nat) → (Int32) → Int32, ∀ (f : Nat → Int32) (b : Nat) (x : Int32), F f b x = sclN f b x 8 := ⟨fun f b x => sclN f b x 8, fun _ _ _ => rfl⟩
noncomputable def SN : (Nat → Int32) → (Nat) → (Int32) → Int32 := Classical.choose SN_ex
theorem SN_eq (f : Nat → Int32) (b : Nat) (x : Int32) : SN f b x = sclN f b x 8 := Classical.choose_spec SN_ex f b x
def fil (f : Nat → Int32) (b : Nat) (v : Int32) : Nat → (Nat → Int32)
  | 0 => f
  | n + 1 => upd (fil f b v n) (b + n) v
theorem FI_ex : ∃ F : (Nat → Int32) → (Nat) → (Int32) → (Nat → Int32), ∀ (f : Nat → Int32) (b : Nat) (v : Int32), F f b v = fil f b v 8 := ⟨fun f b v => fil f b v 8, fun _ _ _ => rfl⟩
noncomputable def FI : (Nat → Int32) → (Nat) → (Int32) → (Nat → Int32) := Classical.choose FI_ex
theorem FI_eq (f : Nat → Int32) (b : Nat) (v : Int32) : FI f b v = fil f b v 8 := Classical.choose_spec FI_ex f b v
/-- the reference's cells -/
abbrev mF (ad : Nat → Nat) (σ : Nat → Nat → Int32) : List Value := [.ref (ad 0), .ref (ad 1), .ref (ad 2), .int (σ 3 0), .ref (ad 4), .int (σ 5 0), .ref (ad 6), .ref (ad 7), .ref (ad 8), .ref (ad 9), .ref (ad 10), .ref (ad 11), .ref (ad 12), .ref (ad 13), .ref (ad 14), .ref (ad 15), .ref (ad 16), .ref (ad 17), .ref (ad 18), .ref (ad 19), .ref (ad 20), .int (σ 21 0), .ref (ad 22), .ref (ad 23), .int (σ 24 0), .ref (ad 25), .int (σ 26 0), .ref (ad 27), .int (σ 28 0), .ref (ad 29), .ref (ad 30), .int (σ 31 0)]
abbrev mW (o : Nat) (ad : Nat → Nat) (T : Nat → ClassId) (σ : Nat → Nat → Int32) : va_W := [(o, .inr (7, mF ad σ)),
  (ad 0, .inl (T 0, 4, .inl (σ 0))), (ad 1, .inl (T 0, 4, .inl (σ 1))), (ad 2, .inl (T 0, 4, .inl (σ 2))), (ad 4, .inl (T 0, 20, .inl (σ 4))), (ad 6, .inl (T 0, 12, .inl (σ 6))), (ad 7, .inl (T 0, 96, .inl (σ 7))), (ad 8, .inl (T 0, 96, .inl (σ 8))),
  (ad 9, .inl (T 0, 12, .inl (σ 9))), (ad 10, .inl (T 0, 12, .inl (σ 10))), (ad 11, .inl (T 0, 12, .inl (σ 11))), (ad 12, .inl (T 0, 12, .inl (σ 12))), (ad 13, .inl (T 0, 12, .inl (σ 13))), (ad 14, .inl (T 1, 12, .inl (σ 14))), (ad 15, .inl (T 0, 12, .inl (σ 15))), (ad 16, .inl (T 0, 12, .inl (σ 16))), (ad 17, .inl (T 0, 12, .inl (σ 17))), (ad 18, .inl (T 1, 12, .inl (σ 18))), (ad 19, .inl (T 0, 12, .inl (σ 19))), (ad 20, .inl (T 0, 12, .inl (σ 20))),
  (ad 22, .inl (T 0, 32, .inl (σ 22))), (ad 23, .inl (T 0, 4, .inl (σ 23))), (ad 25, .inl (T 1, 400, .inl (σ 25))), (ad 27, .inl (T 0, 12, .inl (σ 27))), (ad 29, .inl (T 0, 256, .inl (σ 29))), (ad 30, .inl (T 0, 256, .inl (σ 30)))]
/-- a minute: the skin outside of the furnace; the core after the skin -/
def clS (sk : Int32) : Int32 := sk - (sk - 20) / 10
def wrm (sk co : Int32) : Int32 := co + (sk - co) / 6
theorem upd_same (f : Nat → Int32) (k : Nat) (x : Int32) : upd f k x k = x := if_pos rfl
theorem upd_ne (f : Nat → Int32) {k j : Nat} (x : Int32) (h : j ≠ k) : upd f k x j = f j := if_neg h
theorem upd_upd (f : Nat → Int32) (k : Nat) (x y : Int32) : upd (upd f k x) k y = upd f k y := by
  funext j
  unfold upd
  split <;> rfl
theorem upd_id (f : Nat → Int32) (k : Nat) : upd f k (f k) = f := by
  funext j
  unfold upd
  split
  · next h => rw [h]
  · rfl
theorem upS_id (σ : Nat → Nat → Int32) (k : Nat) : upS σ k (σ k) = σ := by
  funext a
  unfold upS
  split
  · next h => rw [h]
  · rfl
theorem upS_upS (σ : Nat → Nat → Int32) (k : Nat) (f g : Nat → Int32) : upS (upS σ k f) k g = upS σ k g := by
  funext a
  unfold upS
  split <;> rfl
/-- minutes outside -/
def cSk (sk : Int32) : Nat → Int32
  | 0 => sk
  | n + 1 => clS (cSk sk n)
def cCo (sk co : Int32) : Nat → Int32
  | 0 => co
  | n + 1 => wrm (cSk sk (n + 1)) (cCo sk co n)
/-- minutes in a furnace f: skin, core, areas from the place b on, what is lost, grain -/
def hSk (f sk : Int32) : Nat → Int32
  | 0 => sk
  | n + 1 => hSk f sk n + (f - hSk f sk n) / 4
def hCo (f sk co : Int32) : Nat → Int32
  | 0 => co
  | n + 1 => wrm (hSk f sk (n + 1)) (hCo f sk co n)
noncomputable def hAr (f sk : Int32) (b : Nat) (g : Nat → Int32) : Nat → (Nat → Int32)
  | 0 => g
  | n + 1 => if (n + 1) % 5 = 0 then (if hSk f sk (n + 1) < 800 then hAr f sk b g n else SA (hAr f sk b g n) b) else hAr f sk b g n
noncomputable def hLo (f sk : Int32) (b : Nat) (g : Nat → Int32) (x : Int32) : Nat → Int32
  | 0 => x
  | n + 1 => if (n + 1) % 5 = 0 then (if hSk f sk (n + 1) < 800 then hLo f sk b g x n else SN (hAr f sk b g n) b (hLo f sk b g x n)) else hLo f sk b g x n
def hGr (f sk co gr : Int32) : Nat → Int32
  | 0 => gr
  | n + 1 => if (n + 1) % 10 = 0 then (if hCo f sk co (n + 1) < 900 then hGr f sk co gr n else if hGr f sk co gr n < 200 then hGr f sk co gr n + 1 else hGr f sk co gr n) else hGr f sk co gr n
theorem add_0 (x : Int32) : x + 0 = x := Int32.add_zero x
/-- hardness -/
def hrd (q t : Int32) : Int32 := if q - (if 100 < t then (t - 100) / 20 else 0) < 0 then 0 else q - (if 100 < t then (t - 100) / 20 else 0)
def sft (f : Nat → Int32) (t : Int32) : Nat → Int32
  | 0 => hrd (f 0) t
  | n + 1 => imin (sft f t n) (hrd (f (n + 1)) t)
theorem SF_ex : ∃ F : (Nat → Int32) → (Int32) → Int32, ∀ (f : Nat → Int32) (t : Int32), F f t = sft f t 7 := ⟨fun f t => sft f t 7, fun _ _ => rfl⟩
noncomputable def SF : (Nat → Int32) → (Int32) → Int32 := Classical.choose SF_ex
theorem SF_eq (f : Nat → Int32) (t : Int32) : SF f t = sft f t 7 := Classical.choose_spec SF_ex f t
def btw (a b : Int32) : Int32 := if a < b then b - a else a - b
/-- what an act does with a pattern, layer by layer -/
def actT (a k : Nat) : Nat := if a = 0 then (if k < 4 then 2 * k else 2 * (7 - k) + 1) else if a = 1 then (k + 1) % 8 else (k + 4) % 8
def actI (p : Int32) (a : Nat) : Nat → Int32
  | 0 => 0
  | n + 1 => actI p a n ||| (((p >>> (nI n &&& 31)) &&& 1) <<< (nI (actT a n) &&& 31))
theorem AC_ex : ∃ F : (Int32) → (Nat) → Int32, ∀ (p : Int32) (a : Nat), F p a = actI p a 8 := ⟨fun p a => actI p a 8, fun _ _ => rfl⟩
noncomputable def AC : (Int32) → (Nat) → Int32 := Classical.choose AC_ex
theorem AC_eq (p : Int32) (a : Nat) : AC p a = actI p a 8 := Classical.choose_spec AC_ex p a
def actN (p a : Nat) : Nat := (actI (nI p) a 8).toNatClampNeg
set_option maxRecDepth 100000 in
theorem actN_ok : ∀ p, p < 256 → ∀ a, a < 3 → actI (nI p) a 8 = nI (actN p a) ∧ actN p a < 256 := by decide +kernel
def cqB (co cr : Nat → Int32) (set : Int32) : Nat → Int32 → Int32
  | 0, c => c
  | n + 1, c => if cqB co cr set n c = 0 then 0 else if (set >>> (nI n &&& 31)) &&& 1 = 0 then 1 else if co n < 800 then 0 else if cr n = 0 then 1 else 0
theorem cqB_n (co cr : Nat → Int32) (set : Int32) (n : Nat) (c : Int32) (h : narrow .boolean (.int c) = .int c) : narrow .boolean (.int (cqB co cr set n c)) = .int (cqB co cr set n c) := by
  cases n with
  | zero => exact h
  | succ n =>
    unfold cqB
    split
    · rfl
    · split
      · rfl
      · split
        · rfl
        · split <;> rfl
/-- quenching, section by section from the place b on -/
def qnum (wide md : Int32) : Int32 := imin (wide / (if md = 0 then 10 else 20)) 9
def qval (hd dp n : Int32) : Int32 := if hd - dp * n < 0 then 0 else hd - dp * n
def qQ (f7 f8 : Nat → Int32) (b : Nat) (hd dp md : Int32) : Nat → (Nat → Int32)
  | 0 => f8
  | n + 1 => upd (qQ f7 f8 b hd dp md n) (b + n) (qval hd dp (qnum (f7 (b + n)) md))
theorem QQ_ex : ∃ F : (Nat → Int32) → (Nat → Int32) → (Nat) → (Int32) → (Int32) → (Int32) → (Nat → Int32), ∀ (f7 : Nat → Int32) (f8 : Nat → Int32) (b : Nat) (hd : Int32) (dp : Int32) (md : Int32), F f7 f8 b hd dp md = qQ f7 f8 b hd dp md 8 := ⟨fun f7 f8 b hd dp md => qQ f7 f8 b hd dp md 8, fun _ _ _ _ _ _ => rfl⟩
noncomputable def QQ : (Nat → Int32) → (Nat → Int32) → (Nat) → (Int32) → (Int32) → (Int32) → (Nat → Int32) := Classical.choose QQ_ex
theorem QQ_eq (f7 : Nat → Int32) (f8 : Nat → Int32) (b : Nat) (hd : Int32) (dp : Int32) (md : Int32) : QQ f7 f8 b hd dp md = qQ f7 f8 b hd dp md 8 := Classical.choose_spec QQ_ex f7 f8 b hd dp md
def qC (f7 : Nat → Int32) (b : Nat) (md c : Int32) : Nat → Int32
  | 0 => c
  | n + 1 => if qC f7 b md c n = 0 then (if md = 1 then (if 3 * f7 (b + nbr n) < f7 (b + n) then 1 else if 3 * f7 (b + n) < f7 (b + nbr n) then 1 else 0) else 0) else 1
theorem QC_ex : ∃ F : (Nat → Int32) → (Nat) → (Int32) → (Int32) → Int32, ∀ (f7 : Nat → Int32) (b : Nat) (md : Int32) (c : Int32), F f7 b md c = qC f7 b md c 8 := ⟨fun f7 b md c => qC f7 b md c 8, fun _ _ _ _ => rfl⟩
noncomputable def QC : (Nat → Int32) → (Nat) → (Int32) → (Int32) → Int32 := Classical.choose QC_ex
theorem QC_eq (f7 : Nat → Int32) (b : Nat) (md : Int32) (c : Int32) : QC f7 b md c = qC f7 b md c 8 := Classical.choose_spec QC_ex f7 b md c
/-- the nearest section with more than the die -/
def ovr (f g : Nat → Int32) (b d j : Nat) : Int32 := f (b + j) - g (d + j)
def gv2 (ov : Nat → Int32) (s y : Nat) (nx : Int32) : Int32 := if s + y < 8 then (if 0 < ov (s + y) then nI (s + y) else nx) else nx
def gvr (ov : Nat → Int32) (s : Nat) : Nat → Int32
  | 0 => -1
  | n + 1 => if s < 7 - n then gv2 ov s (7 - n) (gvr ov s n) else if 0 < ov (s - (7 - n)) then nI (s - (7 - n)) else gv2 ov s (7 - n) (gvr ov s n)
theorem GV_ex : ∃ F : (Nat → Int32) → (Nat) → Int32, ∀ (ov : Nat → Int32) (s : Nat), F ov s = gvr ov s 7 := ⟨fun ov s => gvr ov s 7, fun _ _ => rfl⟩
noncomputable def GV : (Nat → Int32) → (Nat) → Int32 := Classical.choose GV_ex
theorem GV_eq (ov : Nat → Int32) (s : Nat) : GV ov s = gvr ov s 7 := Classical.choose_spec GV_ex ov s
/-- what a billet is told to be -/
noncomputable def tld (σ : Nat → Nat → Int32) (i : Nat) : Nat → Int32
  | 0 => σ 9 i
  | 1 => σ 10 i
  | 2 => VO (σ 7) (8 * i)
  | 3 => σ 12 i
  | 4 => σ 11 i
  | 5 => σ 13 i
  | 6 => if σ 14 i = 0 then 0 else 1
  | 7 => σ 15 i
  | _ => σ 16 i
theorem tld_31 (σ : Nat → Nat → Int32) (f : Nat → Int32) (i : Nat) : ∀ w, tld (upS σ 31 f) i w = tld σ i w
  | 0 => rfl
  | 1 => rfl
  | 2 => rfl
  | 3 => rfl
  | 4 => rfl
  | 5 => rfl
  | 6 => rfl
  | 7 => rfl
  | _ + 8 => rfl
theorem gth_1 (s t : Int32) : gth 0 s t = 1 := if_pos rfl
theorem nI_nm1 {n : Nat} (h : n < 2 ^ 31) : ¬ nI n = -1 := by
  intro q
  have a := nI_toInt h
  rw [q] at a
  have e : (-1 : Int32).toInt = -1 := by decide
  omega
/-- a job put among jobs that rise -/
def ins (f : Nat → Int32) (w : Int32) : Nat → (Nat → Int32)
  | 0 => upd f 0 w
  | k + 1 => if w < f k then ins (upd f (k + 1) (f k)) w k else upd f (k + 1) w
/-- a blow: m from g to t -/
def blA (f : Nat → Int32) (g t : Nat) (m : Int32) : Nat → Int32 := upd (upd f g (f g - m)) t (upd f g (f g - m) t + m)
def lapv (a b : Int32) : Int32 := if 3 * b < a then 1 else if 3 * a < b then 1 else 0
def grv (gr fo co : Int32) : Int32 := if co < 900 then gr else if gr - fo < 5 then 5 else gr - fo
theorem gvr_cases (ov : Nat → Int32) (s : Nat) : ∀ n, n ≤ 7 → s < 8 → gvr ov s n = -1 ∨ ∃ q, q < 8 ∧ q ≠ s ∧ 0 < ov q ∧ gvr ov s n = nI q
  | 0, _, _ => Or.inl rfl
  | n + 1, h, hs => by
    have ih := gvr_cases ov s n (by omega) hs
    have g2 : gv2 ov s (7 - n) (gvr ov s n) = -1 ∨ ∃ q, q < 8 ∧ q ≠ s ∧ 0 < ov q ∧ gv2 ov s (7 - n) (gvr ov s n) = nI q := by
      unfold gv2
      split
      · next h1 =>
        split
        · next h2 => exact Or.inr ⟨s + (7 - n), h1, by omega, h2, rfl⟩
        · exact ih
      · exact ih
    rw [gvr]
    split
    · exact g2
    · next h1 =>
      split
      · next h2 => exact Or.inr ⟨s - (7 - n), by omega, by omega, h2, rfl⟩
      · exact g2
/-- unit after unit into the section s -/
noncomputable def flo (g : Nat → Int32) (b d s : Nat) : Nat → (Nat → Int32) → (Nat → Int32) × Nat
  | 0, f => (f, 0)
  | n + 1, f => if GV (ovr f g b d) s = -1 then (f, n + 1) else if ovr f g b d s < 0 then flo g b d s n (upd (upd f (b + (GV (ovr f g b d) s).toNatClampNeg) (f (b + (GV (ovr f g b d) s).toNatClampNeg) - 1)) (b + s) (upd f (b + (GV (ovr f g b d) s).toNatClampNeg) (f (b + (GV (ovr f g b d) s).toNatClampNeg) - 1) (b + s) + 1)) else (f, n + 1)
noncomputable def fls (g : Nat → Int32) (b d : Nat) : Nat → Nat → (Nat → Int32) → (Nat → Int32)
  | 0, _, f => f
  | n + 1, m, f => fls g b d n (flo g b d (7 - n) m f).2 (flo g b d (7 - n) m f).1
theorem FL_ex : ∃ F : (Nat → Int32) → (Nat) → (Nat) → (Nat) → (Nat → Int32) → (Nat → Int32), ∀ (g : Nat → Int32) (b : Nat) (d : Nat) (m : Nat) (f : Nat → Int32), F g b d m f = fls g b d 8 m f := ⟨fun g b d m f => fls g b d 8 m f, fun _ _ _ _ _ => rfl⟩
noncomputable def FL : (Nat → Int32) → (Nat) → (Nat) → (Nat) → (Nat → Int32) → (Nat → Int32) := Classical.choose FL_ex
theorem FL_eq (g : Nat → Int32) (b : Nat) (d : Nat) (m : Nat) (f : Nat → Int32) : FL g b d m f = fls g b d 8 m f := Classical.choose_spec FL_ex g b d m f
theorem z_grv (σ : Nat → Nat → Int32) (i : Nat) {gr : Int32} (h : σ 11 i = gr) : upS σ 11 (upd (σ 11) i gr) = σ := by
  rw [← h, upd_id, upS_id]
theorem GV_cases (ov : Nat → Int32) (s : Nat) (hs : s < 8) : GV ov s = -1 ∨ ∃ q, q < 8 ∧ q ≠ s ∧ 0 < ov q ∧ GV ov s = nI q := by
  rw [GV_eq]
  exact gvr_cases ov s 7 (Nat.le_refl 7) hs
def lifv (lf w : Int32) : Int32 := if lf < w then 0 else lf - w
def cntb (ov : Nat → Int32) : Nat → Int32
  | 0 => 0
  | n + 1 => if ov n < 0 then cntb ov n + 1 else cntb ov n
theorem CB_ex : ∃ F : (Nat → Int32) → Int32, ∀ ov, F ov = cntb ov 8 := ⟨fun ov => cntb ov 8, fun _ => rfl⟩
noncomputable def CB : (Nat → Int32) → Int32 := Classical.choose CB_ex
theorem CB_eq (ov : Nat → Int32) : CB ov = cntb ov 8 := Classical.choose_spec CB_ex ov
/-- flash -/
def flA (g : Nat → Int32) (b d : Nat) (f : Nat → Int32) : Nat → (Nat → Int32)
  | 0 => f
  | n + 1 => upd (flA g b d f n) (b + n) (flA g b d f n (b + n) - ovr (flA g b d f n) g b d n)
def flL (g : Nat → Int32) (b d : Nat) (f : Nat → Int32) (x : Int32) : Nat → Int32
  | 0 => x
  | n + 1 => flL g b d f x n + ovr (flA g b d f n) g b d n
theorem FA_ex : ∃ F : (Nat → Int32) → Nat → Nat → (Nat → Int32) → (Nat → Int32), ∀ g b d f, F g b d f = flA g b d f 8 := ⟨fun g b d f => flA g b d f 8, fun _ _ _ _ => rfl⟩
noncomputable def FA : (Nat → Int32) → Nat → Nat → (Nat → Int32) → (Nat → Int32) := Classical.choose FA_ex
theorem FA_eq (g : Nat → Int32) (b d : Nat) (f : Nat → Int32) : FA g b d f = flA g b d f 8 := Classical.choose_spec FA_ex g b d f
theorem FB_ex : ∃ F : (Nat → Int32) → Nat → Nat → (Nat → Int32) → Int32 → Int32, ∀ g b d f x, F g b d f x = flL g b d f x 8 := ⟨fun g b d f x => flL g b d f x 8, fun _ _ _ _ _ => rfl⟩
noncomputable def FB : (Nat → Int32) → Nat → Nat → (Nat → Int32) → Int32 → Int32 := Classical.choose FB_ex
theorem FB_eq (g : Nat → Int32) (b d : Nat) (f : Nat → Int32) (x : Int32) : FB g b d f x = flL g b d f x 8 := Classical.choose_spec FB_ex g b d f x
/-- quenching one billet, and a set of them -/
noncomputable def qOne (σ : Nat → Nat → Int32) (i st9 : Nat) (md : Int32) : Nat → Nat → Int32 := upS (upS (upS (upS (upS (upS σ 8 (QQ (σ 7) (σ 8) (8 * i) (σ 1 st9) (σ 2 st9) md)) 9 (upd (σ 9) i 20)) 10 (upd (σ 10) i 20)) 14 (upd (σ 14) i (QC (σ 7) (8 * i) md (σ 14 i)))) 16 (upd (σ 16) i (σ 24 0))) 17 (upd (σ 17) i 0)
noncomputable def qSt (σ : Nat → Nat → Int32) (st : Nat → Nat) (set md : Int32) : Nat → (Nat → Nat → Int32)
  | 0 => σ
  | n + 1 => if (set >>> (nI n &&& 31)) &&& 1 = 1 then qOne (qSt σ st set md n) n (st n) md else qSt σ st set md n
theorem upS_ne (σ : Nat → Nat → Int32) {k a : Nat} (f : Nat → Int32) (h : a ≠ k) : upS σ k f a = σ a := if_neg h
theorem qSt_keep (σ : Nat → Nat → Int32) (st : Nat → Nat) (set md : Int32) {a : Nat} (h : a ≠ 8 ∧ a ≠ 9 ∧ a ≠ 10 ∧ a ≠ 14 ∧ a ≠ 16 ∧ a ≠ 17) : ∀ n, qSt σ st set md n a = σ a
  | 0 => rfl
  | n + 1 => by
    rw [qSt]
    split
    · unfold qOne
      rw [upS_ne _ _ h.2.2.2.2.2, upS_ne _ _ h.2.2.2.2.1, upS_ne _ _ h.2.2.2.1, upS_ne _ _ h.2.2.1, upS_ne _ _ h.2.1, upS_ne _ _ h.1]
      exact qSt_keep σ st set md h n
    · exact qSt_keep σ st set md h n
