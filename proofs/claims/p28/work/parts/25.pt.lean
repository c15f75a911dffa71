/-! ===== patterns ===== -/
section ZSV
variable {p : Program} {l : Launch} {e : Env} {R : Room} {s : State} {m : MethodId} {args : Array Value} {below : List Frame} {meth : Method} {c : Code} {H : Heap} {locs : List Loc} {cells slots : Nat} {Q : State → Prop}
variable {cc : ByteArray} {nL : Nat} {own : String} {Ts : List Cond} {D : va_G} {T : Nat → ClassId} {A : Nat → Prop} {ws : va_W} {pc : Nat} {ls : Array Slot} {rest : List Value}
variable {y : MethodName} {bytes : ByteArray} {maxL index n mc ms : Nat} {ret : Option FieldType} {wsy : List Cond} {rm : Room} {wc wc' : va_W} {As : List Value}
/-- a static method over cells at places of the caller's -/
theorem z_callSv (Z : zC p s m args c cc nL own Ts D T A) (M : zM D A s.heap ws H locs) (hM : ZV l y wsy rm D T wc wc' As mc ms) (cw : CallB R s args own index y bytes maxL ret wsy rm mc ms n ∧ (Cond.static y).before args s = true)
    (is : List Nat) (hC : is.map (fun i => ws[i]?) = wc.map some) (hnd : va_nd is = true) (hf : ∀ j : Nat, j < wc.length → (wc'.map Prod.fst)[j]? = (wc.map Prod.fst)[j]?) (hlen : wc.length ≤ wc'.length)
    (hn : As.length = n) (hls : ls.size = nL) (hW : (rest.map fun v => v.category).sum ≤ 8) (hdg : decode cc pc = .ok (.invokestatic index, 3)) (hroom : cells + mc ≤ R.cells ∧ slots + ms ≤ R.slots) {st : List Value} (hst : st = As.reverse ++ rest)
    (kk : ∀ (H1 : Heap) (locs1 : List Loc), zM D A s.heap (z_put ws is wc') H1 locs1 → W p l e R s m args below meth c H1 locs1 (cells + mc) (slots + ms) Q (F0 m (pc + 3) ls rest)) :
    W p l e R s m args below meth c H locs cells slots Q (F0 m pc ls st) := by
  subst hst
  obtain ⟨S, hK, hA⟩ := Z
  obtain ⟨hP, hD, hS⟩ := M
  have hF := z_free hD hS hA is hC
  have hPc : va_P D vwCl wc H := fun k q hq => by
    obtain ⟨i, -, h2⟩ := z_in hC hq
    exact hP i q h2
  have hDc : va_D (fun _ => True) wc := ⟨fun i j x y hx hy hxy => by
    obtain ⟨a, h1, h2⟩ := z_in hC hx
    obtain ⟨b, g1, g2⟩ := z_in hC hy
    have e := hD.1 a b x y h2 g2 hxy
    subst e
    exact va_nd_inj is hnd i j a h1 g1, fun _ _ _ => trivial⟩
  refine va_callv (va_runS (As := As) (rest := rest) S (hM H.size) cw ⟨z_blind, fun U hU hW => ⟨rfl, by rw [hU], by rw [hU]; exact hPc, va_K.moved hW.alike hK, hDc⟩⟩ rfl hn hls rfl (lv_room hW) hdg hroom) hS (fun q _ h => hF q h) hF (fun u t H1 locs1 ht hvm hw hB hz1 hk1 hS1 => ?_)
  obtain ⟨hP1, hK1, hD1⟩ := hB
  rw [ht] at hP1
  obtain ⟨hP2, hD2⟩ := z_join hP hD is hC hnd hk1 hF hP1 hD1 hf hlen
  exact kk H1 locs1 ⟨hP2, hD2, hS1⟩
theorem z_alen (Z : zC p s m args c cc nL own Ts D T A) (M : zM D A s.heap ws H locs) (q0 : Nat) {h0 n : Nat} {f : Nat → Int32} (ha : ws[q0]? = some (h0, .inl (T 0, n, .inl f))) (hdg : decode cc pc = .ok (.arraylength, 1))
    (kk : W p l e R s m args below meth c H locs cells slots Q (F0 m (pc + 1) ls (.int (nI n) :: rest))) : W p l e R s m args below meth c H locs cells slots Q (F0 m pc ls (.ref h0 :: rest)) :=
  va_alen Z.1.1 Z.1.2.1 Z.2.1 M.1 q0 0 ha rfl rfl hdg kk
end ZSV
def ush (x y : Int32) : Int32 := (x.toUInt32 >>> (y.toUInt32 &&& Int32.toUInt32 31)).toInt32
def folI (p : Int32) : Nat → Int32
  | 0 => 0
  | n + 1 => folI p n ||| (((ush p (nI n) &&& 1) <<< (nI (2 * n) &&& 31)) ||| ((ush p (nI (7 - n)) &&& 1) <<< (nI (2 * n + 1) &&& 31)))
set_option maxRecDepth 100000 in
theorem beh_ok : ∀ p, p < 256 → folI (nI p) 4 = nI (actN p 0) ∧ ((nI p <<< ((1 : Int32) &&& 31)) ||| ush (nI p) 7) &&& 255 = nI (actN p 1) ∧ ((nI p <<< ((4 : Int32) &&& 31)) ||| ush (nI p) 4) &&& 255 = nI (actN p 2) := by decide +kernel
/-- the first acts, beside the search -/
def of1 (S : bT) (O : Nat → Int32) (x k a : Nat) : Nat → Int32 := if S.1 (actN x a) = -1 then upd O (actN x a) (if k = 0 then nI a else O x) else O
def ofA (S : bT) (O : Nat → Int32) (x k : Nat) : Nat → (Nat → Int32)
  | 0 => O
  | a + 1 => of1 (bfA S x a) (ofA S O x k a) x k a
def ofR : Nat → Nat → bT → (Nat → Int32) → (Nat → Int32)
  | 0, _, _, O => O
  | n + 1, k, S, O => if k < S.2.2 then ofR n (k + 1) (bfA S (S.2.1 k).toNatClampNeg 3) (ofA S O (S.2.1 k).toNatClampNeg k 3) else O
theorem OP_ex : ∃ F : (Nat → Int32) → (Nat → Int32) → (Nat → Int32) → Nat → (Nat → Int32), ∀ F0 Q0 O0 p, F F0 Q0 O0 p = ofR 257 0 (upd (fi0 F0 (-1) 256) p 0, upd Q0 0 (nI p), 1) (fi0 O0 (-1) 256) := ⟨fun F0 Q0 O0 p => ofR 257 0 (upd (fi0 F0 (-1) 256) p 0, upd Q0 0 (nI p), 1) (fi0 O0 (-1) 256), fun _ _ _ _ => rfl⟩
noncomputable def OP : (Nat → Int32) → (Nat → Int32) → (Nat → Int32) → Nat → (Nat → Int32) := Classical.choose OP_ex
theorem OP_eq (F0 Q0 O0 : Nat → Int32) (p : Nat) : OP F0 Q0 O0 p = ofR 257 0 (upd (fi0 F0 (-1) 256) p 0, upd Q0 0 (nI p), 1) (fi0 O0 (-1) 256) := Classical.choose_spec OP_ex F0 Q0 O0 p
theorem FI0_ex : ∃ F : (Nat → Int32) → Int32 → (Nat → Int32), ∀ f v, F f v = fi0 f v 256 := ⟨fun f v => fi0 f v 256, fun _ _ => rfl⟩
noncomputable def FI0 : (Nat → Int32) → Int32 → (Nat → Int32) := Classical.choose FI0_ex
theorem FI0_eq (f : Nat → Int32) (v : Int32) : FI0 f v = fi0 f v 256 := Classical.choose_spec FI0_ex f v
