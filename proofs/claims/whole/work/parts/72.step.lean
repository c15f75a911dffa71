/-! ===== a step of both sides ===== -/
/-- the class's cells with the law's row ahead -/
abbrev Wk (J : List Nat) (ad : Nat → Nat) (T : Nat → ClassId) (ea : Nat) (f : Nat → Int64) (N mst bst : Nat → Nat) (ρ : Nat → Nat → Int32) : va_W := ouW (ad 16) T f :: iw J ad (hG ad T ea f N mst bst ρ)
/-- what a case of the law needs of both sides: the helper cy of the law, the reference's method my; cv: how the answer is compared -/
def StepR (l : Launch) (D : va_G) (T : Nat → ClassId) (ea mi : Nat) (sa : Nat → Nat) (cy : MethodName) (cws : List Cond) (nL : Nat) (las : List Value) (my : MethodName) (mws : List Cond) (mrm : Room) (mas : List Value) (cv : Int32 → Int64) (om : Nat) (am : Nat → Nat)
    (C : Nat) (ad : Nat → Nat) (J : List Nat) (N mst bst : Nat → Nat) (ρ σ : Nat → Nat → Int32) (f : Nat → Int64) : Prop :=
  ∃ (S1 S2 : Type) (Wc' : S1 → va_W) (k rv : Int32) (σ' : S2 → Nat → Nat → Int32) (f' : Nat → Int64) (rm : Room) (mc ms : Nat),
    ZIH l cy cws rm (zX ea mi sa) D T (S := S1) (Wk J ad T ea f N mst bst ρ) (fun u => ouW (ad 16) T f' :: Wc' u) las k mc ms ∧
    (rm.cells = mc ∧ rm.slots = ms ∧ rm.frames + 1 ≤ 11 ∧ 8 + (nL + 11) + rm.locals ≤ 404) ∧ (mc ≤ 5 ∧ ms ≤ 70) ∧
    (∀ (u : S1) (j : Nat), j < (Wk J ad T ea f N mst bst ρ).length → ((ouW (ad 16) T f' :: Wc' u).map Prod.fst)[j]? = ((Wk J ad T ea f N mst bst ρ).map Prod.fst)[j]?) ∧ (∀ u : S1, (Wk J ad T ea f N mst bst ρ).length ≤ (ouW (ad 16) T f' :: Wc' u).length) ∧
    ZM l my mws mrm D T (S := S2) (mW om am T σ) (fun u => mW om am T (σ' u)) mas rv ∧ (∀ u2, σ' u2 31 0 = k) ∧ (k = 0 → f' (0 : Int32).toNatClampNeg = cv rv) ∧
    ∀ (u1 : S1) (u2 : S2), ∃ (ad' : Nat → Nat) (J' : List Nat) (N' mst' bst' : Nat → Nat) (ρ' : Nat → Nat → Int32), ad' 16 = ad 16 ∧ ad' 0 = ad 0 ∧ (∃ gb : va_W, List.Perm (Wc' u1) (iw J' ad' (hG ad' T ea f' N' mst' bst' ρ') ++ gb)) ∧ Inv (C + 1) J' N' mst' bst' ρ' (σ' u2)
theorem iw_out {J : List Nat} {ad : Nat → Nat} {T : Nat → ClassId} {ea : Nat} {f f' : Nat → Int64} {N mst bst : Nat → Nat} {ρ : Nat → Nat → Int32} (h : 16 ∉ J) : iw J ad (hG ad T ea f' N mst bst ρ) = iw J ad (hG ad T ea f N mst bst ρ) := by
  unfold iw
  exact List.map_congr_left (fun j hj => by rw [hG_row rfl (fun e => h (by rw [← e]; exact hj))])
theorem upS31 (σ : Nat → Nat → Int32) (k : Int32) : upS σ 31 (fun _ => k) 31 0 = k := rfl
section STEP
variable {l : Launch} {D : va_G} {T : Nat → ClassId} {ea mi : Nat} {sa : Nat → Nat} {cy : MethodName} {cws : List Cond} {nL : Nat} {las : List Value} {my : MethodName} {mws : List Cond} {mrm : Room} {mas : List Value} {cv : Int32 → Int64} {om : Nat} {am : Nat → Nat}
variable {C : Nat} {ad : Nat → Nat} {J : List Nat} {N mst bst : Nat → Nat} {ρ σ : Nat → Nat → Int32} {f : Nat → Int64}
theorem liv16 {N : Nat → Nat} : ¬ liv N 16 := by
  unfold liv
  omega
/-- the cells js of the class, the law's row ahead, within all -/
theorem fr_wk (hI : Inv C J N mst bst ρ σ) {js : List Nat} (hjs : js.Nodup) (hl : ∀ j ∈ js, liv N j) {rm : Room} {k : Int32} {mc ms : Nat} {f' : Nat → Int64} {ρ' : Nat → Nat → Int32} {as : List Value}
    (h : ZIH l cy cws rm (zX ea mi sa) D T (S := Unit) (ouW (ad 16) T f :: iw js ad (hG ad T ea f N mst bst ρ)) (fun _ => ouW (ad 16) T f' :: iw js ad (hG ad T ea f' N mst bst ρ')) as k mc ms) (hr : ∀ j, j ∉ js → ρ' j = ρ j) :
    ZIH l cy cws rm (zX ea mi sa) D T (S := Unit) (Wk J ad T ea f N mst bst ρ) (fun _ => ouW (ad 16) T f' :: iw J ad (hG ad T ea f' N mst bst ρ')) as k mc ms := by
  have hJ := hI.1.1
  have hm := hI.1.2.1
  have h16 : ∀ {js : List Nat}, (∀ j ∈ js, liv N j) → 16 ∉ js := fun hl h => liv16 (hl 16 h)
  have hJl : ∀ j ∈ J, liv N j := fun j hj => (hm j).mp hj
  have a := fr_iw (zX_k ea mi sa) (S := Unit) (J := 16 :: J) (js := 16 :: js) (ad := ad) (G := hG ad T ea f N mst bst ρ) (wG := fun _ => iw (16 :: js) ad (hG ad T ea f' N mst bst ρ')) h
    (List.nodup_cons.mpr ⟨h16 hJl, hJ⟩) (List.nodup_cons.mpr ⟨h16 hl, hjs⟩) (fun j hj => (List.mem_cons.mp hj).elim (fun e => List.mem_cons.mpr (Or.inl e)) (fun q => List.mem_cons.mpr (Or.inr ((hm j).mpr (hl j q)))))
    (fun _ => hG ad T ea f' N mst bst ρ') (fun _ => []) (fun _ => (List.append_nil _).symm) (fun _ j hj hn => hG_row (hr j (fun q => hn (List.mem_cons_of_mem _ q))) (fun e => hn (List.mem_cons.mpr (Or.inl e))))
  have e : (fun _ : Unit => iw (16 :: J) ad (hG ad T ea f' N mst bst ρ') ++ []) = fun _ => ouW (ad 16) T f' :: iw J ad (hG ad T ea f' N mst bst ρ') := by
    funext _
    rw [List.append_nil]
    rfl
  rw [e] at a
  exact a
theorem step_u (hI : Inv C J N mst bst ρ σ) {js : List Nat} (hjs : js.Nodup) (hl : ∀ j ∈ js, liv N j) {rm : Room} {k rv : Int32} {mc ms : Nat} {f' : Nat → Int64} {ρ' : Nat → Nat → Int32} {S2 : Type} {σ' : S2 → Nat → Nat → Int32}
    (h : ZIH l cy cws rm (zX ea mi sa) D T (S := Unit) (ouW (ad 16) T f :: iw js ad (hG ad T ea f N mst bst ρ)) (fun _ => ouW (ad 16) T f' :: iw js ad (hG ad T ea f' N mst bst ρ')) las k mc ms) (hrm : rm.cells = mc ∧ rm.slots = ms ∧ rm.frames + 1 ≤ 11 ∧ 8 + (nL + 11) + rm.locals ≤ 404) (hmc : mc ≤ 5 ∧ ms ≤ 70)
    (hr : ∀ j, j ∉ js → ρ' j = ρ j) (hm : ZM l my mws mrm D T (S := S2) (mW om am T σ) (fun u => mW om am T (σ' u)) mas rv) (h31 : ∀ u2, σ' u2 31 0 = k) (hk : k = 0 → f' (0 : Int32).toNatClampNeg = cv rv) (hI' : ∀ u2, Inv (C + 1) J N mst bst ρ' (σ' u2)) :
    StepR l D T ea mi sa cy cws nL las my mws mrm mas cv om am C ad J N mst bst ρ σ f := by
  refine ⟨Unit, S2, fun _ => iw J ad (hG ad T ea f' N mst bst ρ'), k, rv, σ', f', rm, mc, ms, fr_wk hI hjs hl h hr, hrm, hmc, fun _ j hj => ?_, fun _ => ?_, hm, h31, hk, fun _ u2 => ⟨ad, J, N, mst, bst, ρ', rfl, rfl, ⟨[], by rw [List.append_nil]⟩, hI' u2⟩⟩
  · unfold Wk iw
    rw [List.map_cons, List.map_cons, List.map_map, List.map_map]
    rfl
  · unfold Wk iw
    rw [List.length_cons, List.length_cons, List.length_map, List.length_map]
    exact Nat.le_refl _
/-- it throws -/
theorem step_bad (hI : Inv C J N mst bst ρ σ) {js : List Nat} (hjs : js.Nodup) (hl : ∀ j ∈ js, liv N j) {rm : Room} {k : Int32}
    (h : ZIH l cy cws rm (zX ea mi sa) D T (S := Unit) (ouW (ad 16) T f :: iw js ad (hG ad T ea f N mst bst ρ)) (fun _ => ouW (ad 16) T f :: iw js ad (hG ad T ea f N mst bst ρ)) las k 1 6) (hrm : rm.cells = 1 ∧ rm.slots = 6 ∧ rm.frames + 1 ≤ 11 ∧ 8 + (nL + 11) + rm.locals ≤ 404)
    (hk : k ≠ 0) {rv : Int32} (hm : ZI l my mws mrm D T (mW om am T σ) (mW om am T (upS σ 31 (fun _ => k))) mas rv 0 0) :
    StepR l D T ea mi sa cy cws nL las my mws mrm mas cv om am C ad J N mst bst ρ σ f :=
  step_u hI hjs hl h hrm ⟨by decide, by decide⟩ (fun _ _ => rfl) (zI_M hm) (fun _ => upS31 σ k) (fun e => absurd e hk) (fun _ => Inv_read (Nat.le_succ C) hI (fun j hj => upS_ne σ _ (show j ≠ 31 by omega)))
end STEP
