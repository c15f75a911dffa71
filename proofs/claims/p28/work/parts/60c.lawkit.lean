/-! ===== the law: calls over the whole world, the script ===== -/
theorem mid_put3 (wc post : va_W) : ∃ is : List Nat, is.map (fun i => (wc ++ post)[i]?) = wc.map some ∧ va_nd is = true ∧ ∀ w1 : va_W, w1.length = wc.length → z_put (wc ++ post) is w1 = w1 ++ post := by
  obtain ⟨is, h1, h2, h3⟩ := mid_places [] wc post
  refine ⟨is, h1, h2, fun w1 hw => ?_⟩
  have h4 := h3 w1 [] hw
  rw [List.append_nil, List.append_nil] at h4
  exact h4
theorem mid_put4 (pre wc : va_W) : ∃ is : List Nat, is.map (fun i => (pre ++ wc)[i]?) = wc.map some ∧ va_nd is = true ∧ ∀ w1 : va_W, wc.length ≤ w1.length → z_put (pre ++ wc) is w1 = pre ++ w1 := by
  obtain ⟨is, h1, h2, h3⟩ := mid_places pre wc []
  rw [List.append_nil] at h1 h3
  refine ⟨is, h1, h2, fun w1 hw => ?_⟩
  have e : w1 = w1.take wc.length ++ w1.drop wc.length := (List.take_append_drop _ _).symm
  have h4 := h3 (w1.take wc.length) (w1.drop wc.length) (by rw [List.length_take]; omega)
  rw [← e] at h4
  rw [h4, List.append_nil, List.append_assoc, ← e]
theorem zT_k : zKp (fun _ => True) := ⟨fun _ _ _ _ => trivial, fun _ _ _ _ => trivial⟩
abbrev ZM (l : Launch) (y : MethodName) (ws : List Cond) (rm : Room) (D : va_G) (T : Nat → ClassId) {S : Type} (w : va_W) (w' : S → va_W) (as : List Value) (rv : Int32) : Prop := ZIP l y ws rm (fun _ => True) D T w w' as rv 0 0
theorem zX_M {l : Launch} {y : MethodName} {ws : List Cond} {rm : Room} {D : va_G} {T : Nat → ClassId} {S : Type} {w : va_W} {w' : S → va_W} {as : List Value} {rv : Int32} (h : ZX l y ws rm D T w w' as rv 0 0) : ZM l y ws rm D T w w' as rv := fun sz => Met_pre (h sz) (fun _ _ q => ⟨q.1, q.2.1⟩)
theorem zI_M {l : Launch} {y : MethodName} {ws : List Cond} {rm : Room} {D : va_G} {T : Nat → ClassId} {w w' : va_W} {as : List Value} {rv : Int32} (h : ZI l y ws rm D T w w' as rv 0 0) : ZM l y ws rm D T (S := Unit) w (fun _ => w') as rv := fun sz => Met_pre (h sz) (fun _ _ q => ⟨q.1, q.2.1⟩)
theorem lgc (x : Int64) : lg_cmp x x = 0 := by
  unfold lg_cmp
  simp
section ZLAW
variable {p : Program} {l : Launch} {e : Env} {R : Room} {s : State} {m : MethodId} {args : Array Value} {below : List Frame} {meth : Method} {c : Code} {H : Heap} {locs : List Loc} {cells slots : Nat} {Q : State → Prop}
variable {cc : ByteArray} {nL : Nat} {own C : String} {Ts : List Cond} {D : va_G} {T : Nat → ClassId} {A : Nat → Prop} {ws : va_W} {pc : Nat} {ls : Array Slot} {rest : List Value}
variable {y : MethodName} {bytes : ByteArray} {maxL index n mc ms b : Nat} {ret : Option FieldType} {wsy : List Cond} {rm : Room} {wc : va_W} {As : List Value} {hh : List (Nat × Nat × Nat × Nat)} {rv : Int32} {P : (Nat → Prop) → State → Heap → Prop}
theorem z_callSWH {S : Type} {wG : S → va_W} (hk : zHp P) (hPs : P A s s.heap) (Z : zC p s m args c cc nL own Ts D T A) (M : zM D A s.heap ws H locs) (hM : ZIH l y wsy rm P D T wc wG As rv mc ms) (cw : vx_CSW R s args own index y bytes maxL ret hh wsy rm mc ms n)
    (is : List Nat) (hC : is.map (fun i => ws[i]?) = wc.map some) (hnd : va_nd is = true) (hf : ∀ (u : S) (j : Nat), j < wc.length → ((wG u).map Prod.fst)[j]? = (wc.map Prod.fst)[j]?) (hlen : ∀ u : S, wc.length ≤ (wG u).length)
    (hn : As.length = n) (hls : ls.size = nL) (hW : (rest.map fun v => v.category).sum ≤ 8) (hdg : decode cc pc = .ok (.invokestatic index, 3)) (hroom : cells + mc ≤ R.cells ∧ slots + ms ≤ R.slots) {st : List Value} (hst : st = As.reverse ++ rest)
    (kk : ∀ (u : S) (H1 : Heap) (locs1 : List Loc), zM D A s.heap (z_put ws is (wG u)) H1 locs1 → W p l e R s m args below meth c H1 locs1 (cells + mc) (slots + ms) Q (F0 m (pc + 3) ls (.int rv :: rest))) :
    W p l e R s m args below meth c H locs cells slots Q (F0 m pc ls st) := by
  subst hst
  obtain ⟨S9, hK, hA⟩ := Z
  obtain ⟨hP, hD, hS⟩ := M
  have hF := z_free hD hS hA is hC
  have hPc : va_P D vwCl wc H := fun k q hq => by
    obtain ⟨i, -, h2⟩ := z_in hC hq
    exact hP i q h2
  have hDc : va_D (fun _ => True) wc := ⟨fun i j x y hx hy hxy => by
    obtain ⟨a, h1, h2⟩ := z_in hC hx
    obtain ⟨b, g1, g2⟩ := z_in hC hy
    have e := hD.1 a b x y h2 g2 hxy
    subst e
    exact va_nd_inj is hnd i j a h1 g1, fun _ _ _ => trivial⟩
  have hPH : P (zA (wc.map Prod.fst) H.size) s H := hk.2.2 A _ s H hF (hk.2.1 A s s.heap H hS.2.1 hPs)
  refine va_calli (vx_runSW (As := As) (rest := rest) S9 (hM H.size) cw ⟨z_blindH hk, fun U hU hW => ⟨rfl, ⟨by rw [hU], by rw [hU]; exact hPc, va_K.moved hW.alike hK, hDc⟩, by rw [hU]; exact hk.1 _ s U H (Or.inr hW) hPH⟩⟩ rfl hn hls rfl (lv_room hW) hdg hroom) hS (fun q _ h => hF q h) hF (fun r u t H1 locs1 ht hvm hw hB hz1 hk1 hS1 => ?_)
  obtain ⟨hP1, hK1, hD1⟩ := hB
  rw [ht] at hP1
  obtain ⟨hP2, hD2⟩ := z_join hP hD is hC hnd hk1 hF hP1 hD1 (hf u) (hlen u)
  have hw : r = rv := hw
  subst hw
  exact kk u H1 locs1 ⟨hP2, hD2, hS1⟩
theorem z_sld {L : Nat} {xs : Nat → Int32} (Z : zC p s m args c cc nL own Ts D T A) (M : zM D A s.heap ws H locs) (hX : va_X b L xs s s.heap) (hbl : b < s.heap.size) (hbA : ¬ A b) {j : Nat} (hj : j < L) (hL : L < 2 ^ 31) (hdg : decode cc pc = .ok (.iaload, 1))
    (kk : W p l e R s m args below meth c H locs cells slots Q (F0 m (pc + 1) ls (.int (xs j) :: rest))) : W p l e R s m args below meth c H locs cells slots Q (F0 m pc ls (.int (nI j) :: .ref b :: rest)) :=
  va_sld Z.1.1 Z.1.2.1 hX hbl hbA M.2.2 (vp_in_nI hj hL) hdg (by rw [nI_clamp (Nat.lt_trans hj hL)]; exact kk)
end ZLAW
