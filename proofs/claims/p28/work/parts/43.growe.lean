/-! ===== the first element of all: ten places ===== -/
def zF (C : String) (ea : Nat) (A : Nat → Prop) (U : State) (H : Heap) : Prop := zE2 ea A U H ∧ (va_AO "java/lang/Object" U ∧ zCa C U)
theorem zCa_moved (C : String) (u U : State) (h : u.vm.Alike U.vm) (hN : zCa C u) : zCa C U := va_tabs rfl (rfl : (u.setVm U.vm).vm = U.vm) (by rw [Cond.castable_setVm h]; exact hN)
theorem zF_k (C : String) (ea : Nat) : zHp (zF C ea) := zHp_and (zE2_k ea) (zHp_tab (fun u U h hN => ⟨va_AO.moved (zAl h) hN.1, zCa_moved C u U (zAl h) hN.2⟩))
abbrev leW2 (L q N : Nat) (T : Nat → ClassId) (k c : Int32) (f : Nat → Option Nat) : va_W := [(L, .inr (0, [.int k, .ref q, .int c])), (q, .inl (T 3, N, qa f))]
set_option maxHeartbeats 4000000 in
theorem cl_growe (l : Launch) (D : va_G) (T : Nat → ClassId) (L ea : Nat) (k c0 : Int32) (C : String) :
    ZRH l yJx4a65c_grow_92f84 wsJx4a65c_grow_92f84 (zrmc 1 40 1 10) (zF C ea) D T (S := Nat) (leW L (.ref ea) k c0) (fun q => leW2 L q 10 T k c0 fun _ => none) [.ref L, .int 1] (fun q => q) 1 10 := by
  refine z_inRH (cc := cJx4a65c_grow_92f84) (maxL := 4) (rt := .array (.object "java/lang/Object")) (by decide +kernel) rfl (Nat.le_of_ble_eq_true rfl) (Or.inr ⟨_, rfl⟩) ?_
  intro p e s m args below meth c9 ls9 A Q Z hE hnm M hl9 hret
  have Z : zC p s m args c9 cJx4a65c_grow_92f84 4 RJx4a65c wsJx4a65c_grow_92f84 D T A := Z
  have hx := Z.1.1
  have hb := Z.1.2.1
  have hts := Z.1.2.2.2.2
  have hinL : ∀ w ∈ wsJx4a65c0, w ∈ wsJx4a65c_grow_92f84 := by decide +kernel
  have L9 := hts (.fieldLink RJx4a65c 9 "java/util/ArrayList" "elementData" "[Ljava/lang/Object;") (by decide +kernel)
  have L39 := hts (.fieldLink RJx4a65c 39 "java/util/ArrayList" "DEFAULTCAPACITY_EMPTY_ELEMENTDATA" "[Ljava/lang/Object;") (by decide +kernel)
  have hl9 : lv_has ls9 4 [(0, .ref L), (1, .int 1)] := hl9
  refine lv_aload_n hx hb dJx4a65c_grow_92f84_0 rfl (lv_at hl9 0 rfl) ?_
  refine z_getf Z M hinL 0 rfl rfl 1 (by decide) L9 rfl (v := .ref ea) rfl dJx4a65c_grow_92f84_1 ?_
  refine va_tlen hx hb hE.1.2 M.2.2 (v := 0) rfl dJx4a65c_grow_92f84_4 ?_
  refine lv_istore_n (lv' := [(2, .int 0), (0, .ref L), (1, .int 1)]) hx hb dJx4a65c_grow_92f84_5 rfl hl9 (by decide) rfl (fun ls9 hl9 => ?_)
  refine lv_iload_n hx hb dJx4a65c_grow_92f84_6 rfl (lv_at hl9 0 rfl) ?_
  refine lv_if_gt (tgt := 20) hx hb dJx4a65c_grow_92f84_7 (by decide) (fun h => absurd h (by decide)) (fun _ => ?_)
  refine lv_aload_n hx hb dJx4a65c_grow_92f84_10 rfl (lv_at hl9 1 rfl) ?_
  refine z_getf Z M hinL 0 rfl rfl 1 (by decide) L9 rfl (v := .ref ea) rfl dJx4a65c_grow_92f84_11 ?_
  refine va_gets hx hb (own := RJx4a65c) (ref := "java/util/ArrayList") hE.1.1 M.2.2 Z.1.2.2.2.1 L39 (fun _ h9 => h9) dJx4a65c_grow_92f84_14 ?_
  refine lv_acmp_eq (rx := some ea) (ry := some ea) (tgt := 45) hx hb dJx4a65c_grow_92f84_17 (by decide) (fun _ => ?_) (fun h => absurd rfl h)
  refine lv_aload_n hx hb dJx4a65c_grow_92f84_45 rfl (lv_at hl9 1 rfl) ?_
  refine lv_bipush (v := 10) hx hb dJx4a65c_grow_92f84_46 (by decide) ?_
  refine lv_iload_n hx hb dJx4a65c_grow_92f84_48 rfl (lv_at hl9 2 rfl) ?_
  refine va_mmax (R := zrmc 1 40 1 10) (rest := [.ref L]) hx hb (Z.1.2.2.1.trans hl9.1.symm) Z.1.2.2.2.1 (hts (.methodLink RJx4a65c 79 Lib.Math.max.name) (by decide +kernel)) (hts (.static Lib.Math.max.name) (by decide +kernel)) (hts (.initialized "java/lang/Math") (by decide +kernel)) (hts (.code Lib.Math.max.name Lib.Math.max.code 2 (some .int)) (by decide +kernel)) (Nat.le_of_ble_eq_true rfl) (Nat.le_of_ble_eq_true rfl) (Nat.zero_le _) (Nat.zero_le _) dJx4a65c_grow_92f84_49 ?_
  refine zn_top (y := 10) (by decide) ?_
  obtain ⟨hP, hD, hS⟩ := M
  refine va_newq (C := "java/lang/Object") hx hb Z.1.2.2.2.1 (hts (.classLink RJx4a65c 7 "java/lang/Object") (by decide +kernel)) hE.2.1 Z.2.1 hP hD hS Z.2.2 (n := 10) (N' := 10) (by decide) (by decide) (by decide) (by decide) (by decide) dJx4a65c_grow_92f84_52 (fun q cA H1 hK1 hP1 hD1 hS1 => ?_)
  obtain ⟨-, -, -, -, -, h1⟩ := (hK1.2 5 (cA, .object "java/lang/Object") rfl).2
  obtain ⟨-, -, -, -, -, h2⟩ := (Z.2.1.2 3 (T 3, .object "java/lang/Object") rfl).2
  have e9 : cA = T 3 := Option.some.inj (h1.symm.trans h2)
  subst e9
  have M : zM D A s.heap [(L, .inr (0, [.int k, .ref ea, .int c0])), (q, .inl (T 3, 10, qa fun _ => none))] H1 _ := ⟨hP1, hD1, hS1⟩
  refine lv_dup_x1 hx hb dJx4a65c_grow_92f84_55 rfl rfl ?_
  refine z_putf Z M hinL tyJx4a65c tyJx4a65c_ok nmJx4a65c 0 rfl rfl 1 (by decide) L9 rfl rfl (ty := .array (.object "java/lang/Object")) rfl rfl rfl (Nat.le_of_ble_eq_true rfl) (ws' := leW2 L q 10 T k c0 fun _ => none) rfl dJx4a65c_grow_92f84_56 (fun H2 locs2 M => ?_)
  exact hret _ _ _ _ _ ls9 q _ q M rfl rfl (by decide) (by decide) dJx4a65c_grow_92f84_59
