/-! ===== the script's words ===== -/
def zS (b L : Nat) (xs : Nat → Int32) : (Nat → Prop) → State → Heap → Prop := fun A U H => va_X b L xs U H ∧ b < H.size ∧ ¬ A b
theorem zS_k (b L : Nat) (xs : Nat → Int32) : zHp (zS b L xs) := by
  refine ⟨fun A u U H hvm q => ⟨va_X.moved (zAl hvm) q.1, q.2⟩, fun A U H H1 hq q => ?_, fun A B U H hAB q => ⟨q.1, q.2.1, fun h => q.2.2 (hAB b h)⟩⟩
  have h1 : va_X b L xs U H1 := va_X.kept q.1 (hq b q.2.1 q.2.2)
  obtain ⟨scr, g1, -⟩ := id h1
  exact ⟨h1, (Array.getElem?_eq_some_iff.mp g1).1, q.2.2⟩
def atV (L : Nat) (xs : Nat → Int32) (k : Nat) : Int32 := if k < L then xs k else (1810094533 : Int32) * (nI k + 1) + 902936563
set_option maxHeartbeats 4000000 in
set_option maxRecDepth 100000 in
theorem lm_at {l : Launch} {D : va_G} {T : Nat → ClassId} {b L : Nat} {xs : Nat → Int32} (hL : L ≤ 260) {k : Nat} (hk : k < 2 ^ 30) (w : va_W) : ZIH l yL_at wsL_at (zrm 0 0) (zS b L xs) D T (S := Unit) w (fun _ => w) [.ref b, .int (nI k)] (atV L xs k) 0 0 := by
  refine z_inIHC (cc := cL_at) (maxL := 2) (rt := .int) (by decide +kernel) rfl (Nat.le_of_ble_eq_true rfl) ?_
  intro p e s m args below meth c sl9 A Q Z hX Mz9 hl9 hret
  have Z : zC p s m args c cL_at 2 RL wsL_at D T A := Z
  have hx := Z.1.1
  have hb := Z.1.2.1
  have hts := Z.1.2.2.2.2
  obtain ⟨hX1, hX2, hX3⟩ := hX
  have hl9 : lv_has sl9 2 [(0, .ref b), (1, .int (nI k))] := hl9
  refine lv_iload_n hx hb dL_at_0 rfl (lv_at hl9 1 rfl) ?_
  refine lv_aload_n hx hb dL_at_1 rfl (lv_at hl9 0 rfl) ?_
  refine va_slen hx hb hX1 hX2 hX3 Mz9.2.2 dL_at_2 ?_
  refine zn_top (y := nI L) rfl ?_
  refine zn_icmp_ge (a := k) (b := L) (tgt := 12) (by omega) (by omega) hx hb dL_at_3 (by decide) (fun h => ?_) (fun h => ?_)
  · have e : atV L xs k = (1810094533 : Int32) * (nI k + 1) + 902936563 := by
      unfold atV
      rw [if_neg (by omega)]
    refine lv_ldc (v := (1810094533)) hx hb Z.1.2.2.2.1 (hts (.constant RL 7 (1810094533)) (by decide +kernel)) dL_at_12 ?_
    refine lv_iload_n hx hb dL_at_14 rfl (lv_at hl9 1 rfl) ?_
    refine lv_iconst (v := 1) hx hb dL_at_15 (by decide) ?_
    refine lv_iadd hx hb dL_at_16 ?_
    refine lv_imul hx hb dL_at_17 ?_
    refine lv_ldc (v := (902936563)) hx hb Z.1.2.2.2.1 (hts (.constant RL 8 (902936563)) (by decide +kernel)) dL_at_18 ?_
    refine lv_iadd hx hb dL_at_20 ?_
    exact hret _ _ _ _ _ sl9 _ _ () Mz9 rfl e.symm rfl (Nat.le_refl _) (Nat.le_refl _) dL_at_21
  · have e : atV L xs k = xs k := by
      unfold atV
      rw [if_pos (by omega)]
    refine lv_aload_n hx hb dL_at_6 rfl (lv_at hl9 0 rfl) ?_
    refine lv_iload_n hx hb dL_at_7 rfl (lv_at hl9 1 rfl) ?_
    refine z_sld Z Mz9 hX1 hX2 hX3 (j := k) (by omega) (by omega) dL_at_8 ?_
    refine lv_goto (tgt := 21) hx hb dL_at_9 (by decide) ?_
    exact hret _ _ _ _ _ sl9 _ _ () Mz9 rfl e.symm rfl (Nat.le_refl _) (Nat.le_refl _) dL_at_21
