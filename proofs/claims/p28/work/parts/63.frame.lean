/-! ===== a contract over some cells is one over more ===== -/
theorem Met_mono {l : Launch} {y : MethodName} {ws : List Cond} {rm : Room} {Pc Pc' : Array Value → State → Prop} {Qc Qc' : Array Value → State → Outcome → State → Prop} {mc ms : Nat} {free free' : Addr → Prop} (h : Met l y ws rm Pc Qc mc ms free) (hp : ∀ a s, Pc' a s → Pc a s) (hq : ∀ a s o t, Pc' a s → Qc a s o t → Qc' a s o t) (hf : ∀ q, free q → free' q) : Met l y ws rm Pc' Qc' mc ms free' := by
  intro p e ha hc hk s m args below hfr happ hP hx
  obtain ⟨n, o, h1, h2, h3, h4, L, h5, h6⟩ := h p e ha hc hk s m args below hfr happ (hp _ _ hP) hx
  exact ⟨n, o, h1, h2, h3, hq _ _ _ _ hP h4, L, h5, fun q hq => hf _ (h6 q hq)⟩
theorem zA_sub {wc ws : va_W} {is : List Nat} {sz : Nat} (hC : is.map (fun i => ws[i]?) = wc.map some) : ∀ q, zA (wc.map Prod.fst) sz q → zA (ws.map Prod.fst) sz q := by
  intro q h
  rcases h with h | h
  · obtain ⟨x, hx, rfl⟩ := List.mem_map.mp h
    obtain ⟨j, hj⟩ := List.getElem?_of_mem hx
    obtain ⟨i, -, h4⟩ := z_in hC hj
    exact Or.inl (List.mem_map.mpr ⟨x, List.mem_of_getElem? h4, rfl⟩)
  · exact Or.inr h
theorem z_subP {D : va_G} {ws wc : va_W} {is : List Nat} {H : Heap} (hC : is.map (fun i => ws[i]?) = wc.map some) (hP : va_P D vwCl ws H) : va_P D vwCl wc H := fun k q hq => by
  obtain ⟨i, -, h2⟩ := z_in hC hq
  exact hP i q h2
theorem z_subD {A : Nat → Prop} {ws wc : va_W} {is : List Nat} (hC : is.map (fun i => ws[i]?) = wc.map some) (hnd : va_nd is = true) (hD : va_D A ws) : va_D A wc := ⟨fun i j x y hx hy hxy => by
    obtain ⟨a, h1, h2⟩ := z_in hC hx
    obtain ⟨b, g1, g2⟩ := z_in hC hy
    have e := hD.1 a b x y h2 g2 hxy
    subst e
    exact va_nd_inj is hnd i j a h1 g1, fun k q hq => by
    obtain ⟨i, -, h2⟩ := z_in hC hq
    exact hD.2 i q h2⟩
theorem zIH_frame {l : Launch} {y : MethodName} {wsy : List Cond} {rm : Room} {P : (Nat → Prop) → State → Heap → Prop} (hk : zHp P) {D : va_G} {T : Nat → ClassId} {S : Type} {wc ws : va_W} {wG wF : S → va_W} {as : List Value} {rv : Int32} {mc ms : Nat} (h : ZIH l y wsy rm P D T wc wG as rv mc ms) (is : List Nat)
    (hC : is.map (fun i => ws[i]?) = wc.map some) (hnd : va_nd is = true) (hf : ∀ (u : S) (j : Nat), j < wc.length → ((wG u).map Prod.fst)[j]? = (wc.map Prod.fst)[j]?) (hlen : ∀ u : S, wc.length ≤ (wG u).length) (hF : ∀ u : S, z_put ws is (wG u) = wF u) : ZIH l y wsy rm P D T ws wF as rv mc ms := by
  intro sz
  refine Met_mono (h sz) (fun a s q => ?_) (fun a s o t q hq => ?_) (zA_sub hC)
  · obtain ⟨q0, ⟨q1, qP, qK, qD⟩, qN⟩ := q
    refine ⟨q0, ⟨q1, z_subP hC qP, qK, z_subD hC hnd qD⟩, ?_⟩
    exact hk.2.2 _ _ _ _ (zA_sub hC) qN
  · obtain ⟨q0, ⟨q1, qP, qK, qD⟩, qN⟩ := q
    obtain ⟨⟨r, u, e1, e2, hP1, hK1, hD1⟩, hz, hk1⟩ := hq
    subst q1
    have hJ := z_join (A0 := zA (ws.map Prod.fst) s.heap.size) qP (zA_self qD) is hC hnd hk1 (fun q hq => zA_sub hC q hq) hP1 hD1 (hf u) (hlen u)
    rw [hF u] at hJ
    exact ⟨⟨r, u, e1, e2, hJ.1, hK1, hJ.2⟩, hz, fun q hq hn => hk1 q hq (fun hh => hn (zA_sub hC q hh))⟩
