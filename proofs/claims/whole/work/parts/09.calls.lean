/-! A callee's contract gives the caller's step: six forms of call. -/
section HVC
variable {p : Program} {l : Launch} {e : Env} {R : Room} {s : State} {m : MethodId} {args : Array Value} {below : List Frame} {meth : Method} {c : Code} {Q : State → Prop} {cc : ByteArray} {nL : Nat} {D : va_G} {cl : List vw_C} {b : Nat} {sa : Nat → Nat} {cA : Nat → ClassId} {pc : Nat}
  {Kx : State → Prop} {y : MethodName} {bytes : ByteArray} {maxL kc ks n index : Nat} {ret : Option FieldType} {ws Ts : List Jvm.Cond} {rm : Room} {own C host : String} {as : List Value} {h h' : hv_H} {rv : Option Value}
theorem hv_blind (hKb : ∀ (U : State) (g : JFrame) (mk : MethodId) (a : Array Value), Kx U → Kx (U.calling g mk a)) : FrameBlind (hv_Pc D cl b sa cA Kx as h) := fun a U g mk q => ⟨q.1, q.2.1, hKb U g mk a q.2.2⟩
theorem hv_pre {H : Heap} {locs : List Loc} (hKm : ∀ U : State, s.WarmedH U.vm → (∀ q : Nat, q < b → U.heap[q]? = s.heap[q]?) → Kx U) (hb0 : b ≤ s.heap.size) (hP : hv_P D cl b sa cA h H) (hS : va_S (fun q => b ≤ q) s.heap H locs) : ∀ U : State, U.heap = H → s.WarmedH U.vm → hv_Pc D cl b sa cA Kx as h (as.map (hv_cv b sa)).toArray U := fun U hU hW => ⟨rfl, by rw [hU]; exact hP, hKm U hW (fun q hq => by rw [hU]; exact hS.2.1 q (Nat.lt_of_lt_of_le hq hb0) (Nat.not_le.mpr hq))⟩
theorem hv_clV (S : CallFix p m c cc nL s args Ts own) (hM : Met l y ws rm (hv_Pc D cl b sa cA Kx as h) (hv_Qc D cl b sa cA rv h') kc ks (fun q => b ≤ q)) (hKm : ∀ U : State, s.WarmedH U.vm → (∀ q : Nat, q < b → U.heap[q]? = s.heap[q]?) → Kx U) (hKb : ∀ (U : State) (g : JFrame) (mk : MethodId) (a : Array Value), Kx U → Kx (U.calling g mk a)) (hb0 : b ≤ s.heap.size) (hK : va_K D cl (hv_tys cA) s) {T : u_T} {N ci : Nat} (hc : cl[ci]? = some (C, T, N)) (cw : CallW R s args own C index y bytes maxL ret ws rm kc ks n) (hlen : as.length = n + 1) (hd : decode cc pc = .ok (.invokevirtual index, 3)) : hv_CL p l e R s m args below meth c Q D cl b sa cA nL pc (kc, ks) (some ci) as h rv h' := by
  intro H locs la nc ns rest hla hrc hP hS hrest hlim kk
  simp only [hv_rc] at hrc
  split at hrc
  · rename_i a as'
    split at hrc
    · rename_i cj fs ha
      have hcj : cj = ci := by simpa using hrc
      subst hcj
      have hcell : ∃ cellB : Cell, H[b + a]? = some cellB ∧ cellB.vm.isStatics = false ∧ s.vm.findClass C = some cellB.cls := by
        obtain ⟨q', h1, cell, g1, g2, g3, -⟩ := hP.2 a _ ha
        exact ⟨cell, g1, by rw [g3]; rfl, by rw [g2]; exact (hK.1 _ _ hc).2.1⟩
      refine hv_after (va_runV (As := as'.map (hv_cv b sa)) (b := b + a) (rest := rest) S hM cw ⟨hv_blind hKb, hcell, hv_pre hKm hb0 hP hS⟩ rfl ?_ hla ?_ (lv_room hrest) hd hlim) hS kk
      · rw [List.length_map]
        simpa using hlen
      · show ((hv_cv b sa (.ref a) :: as'.map (hv_cv b sa)).reverse ++ rest) = _
        rw [List.reverse_cons, List.append_assoc]
        rfl
    · cases hrc
  · cases hrc
theorem hv_clVN (S : CallFix p m c cc nL s args Ts own) (hM : Met l y ws rm (hv_Pc D cl b sa cA Kx as h) (hv_Qc D cl b sa cA rv h') kc ks (fun q => b ≤ q)) (hKm : ∀ U : State, s.WarmedH U.vm → (∀ q : Nat, q < b → U.heap[q]? = s.heap[q]?) → Kx U) (hKb : ∀ (U : State) (g : JFrame) (mk : MethodId) (a : Array Value), Kx U → Kx (U.calling g mk a)) (hb0 : b ≤ s.heap.size) (hK : va_K D cl (hv_tys cA) s) {T : u_T} {N ci : Nat} (hc : cl[ci]? = some (C, T, N)) (cw : va_CN R s args own index y host bytes maxL ret ws rm kc ks n ∧ (Jvm.Cond.instanceMethod y).before args s = true ∧ (Jvm.Cond.selects C y y).before args s = true) (hlen : as.length = n + 1) (hd : decode cc pc = .ok (.invokevirtual index, 3)) : hv_CL p l e R s m args below meth c Q D cl b sa cA nL pc (kc, ks) (some ci) as h rv h' := by
  intro H locs la nc ns rest hla hrc hP hS hrest hlim kk
  simp only [hv_rc] at hrc
  split at hrc
  · rename_i a as'
    split at hrc
    · rename_i cj fs ha
      have hcj : cj = ci := by simpa using hrc
      subst hcj
      have hcell : ∃ cellB : Cell, H[b + a]? = some cellB ∧ cellB.vm.isStatics = false ∧ s.vm.findClass C = some cellB.cls := by
        obtain ⟨q', h1, cell, g1, g2, g3, -⟩ := hP.2 a _ ha
        exact ⟨cell, g1, by rw [g3]; rfl, by rw [g2]; exact (hK.1 _ _ hc).2.1⟩
      refine hv_after (va_runVN (As := as'.map (hv_cv b sa)) (b := b + a) (rest := rest) S hM cw ⟨hv_blind hKb, hcell, hv_pre hKm hb0 hP hS⟩ rfl ?_ hla ?_ (lv_room hrest) hd hlim) hS kk
      · rw [List.length_map]
        simpa using hlen
      · show ((hv_cv b sa (.ref a) :: as'.map (hv_cv b sa)).reverse ++ rest) = _
        rw [List.reverse_cons, List.append_assoc]
        rfl
    · cases hrc
  · cases hrc
theorem hv_clS (S : CallFix p m c cc nL s args Ts own) (hM : Met l y ws rm (hv_Pc D cl b sa cA Kx as h) (hv_Qc D cl b sa cA rv h') kc ks (fun q => b ≤ q)) (hKm : ∀ U : State, s.WarmedH U.vm → (∀ q : Nat, q < b → U.heap[q]? = s.heap[q]?) → Kx U) (hKb : ∀ (U : State) (g : JFrame) (mk : MethodId) (a : Array Value), Kx U → Kx (U.calling g mk a)) (hb0 : b ≤ s.heap.size) (cw : CallB R s args own index y bytes maxL ret ws rm kc ks n ∧ (Jvm.Cond.static y).before args s = true) (hlen : as.length = n) (hd : decode cc pc = .ok (.invokestatic index, 3)) {rc : Option Nat} : hv_CL p l e R s m args below meth c Q D cl b sa cA nL pc (kc, ks) rc as h rv h' := by
  intro H locs la nc ns rest hla hrc hP hS hrest hlim kk
  exact hv_after (va_runS (As := as.map (hv_cv b sa)) (rest := rest) S hM cw ⟨hv_blind hKb, hv_pre hKm hb0 hP hS⟩ rfl (by rw [List.length_map]; exact hlen) hla rfl (lv_room hrest) hd hlim) hS kk
theorem hv_clSN (S : CallFix p m c cc nL s args Ts own) (hM : Met l y ws rm (hv_Pc D cl b sa cA Kx as h) (hv_Qc D cl b sa cA rv h') kc ks (fun q => b ≤ q)) (hKm : ∀ U : State, s.WarmedH U.vm → (∀ q : Nat, q < b → U.heap[q]? = s.heap[q]?) → Kx U) (hKb : ∀ (U : State) (g : JFrame) (mk : MethodId) (a : Array Value), Kx U → Kx (U.calling g mk a)) (hb0 : b ≤ s.heap.size) (cw : va_CN R s args own index y host bytes maxL ret ws rm kc ks n ∧ (Jvm.Cond.static y).before args s = true ∧ True) (hlen : as.length = n) (hd : decode cc pc = .ok (.invokestatic index, 3)) {rc : Option Nat} : hv_CL p l e R s m args below meth c Q D cl b sa cA nL pc (kc, ks) rc as h rv h' := by
  intro H locs la nc ns rest hla hrc hP hS hrest hlim kk
  exact hv_after (va_runSN (As := as.map (hv_cv b sa)) (rest := rest) S hM cw ⟨hv_blind hKb, hv_pre hKm hb0 hP hS⟩ rfl (by rw [List.length_map]; exact hlen) hla rfl (lv_room hrest) hd hlim) hS kk
theorem hv_clI (S : CallFix p m c cc nL s args Ts own) (hM : Met l y ws rm (hv_Pc D cl b sa cA Kx as h) (hv_Qc D cl b sa cA rv h') kc ks (fun q => b ≤ q)) (hKm : ∀ U : State, s.WarmedH U.vm → (∀ q : Nat, q < b → U.heap[q]? = s.heap[q]?) → Kx U) (hKb : ∀ (U : State) (g : JFrame) (mk : MethodId) (a : Array Value), Kx U → Kx (U.calling g mk a)) (hb0 : b ≤ s.heap.size) {ci : Nat} (cw : CallB R s args own index y bytes maxL none ws rm kc ks n ∧ y.name = "<init>" ∧ (Jvm.Cond.instanceMethod y).before args s = true) (hlen : as.length = n + 1) (hd : decode cc pc = .ok (.invokespecial index, 3)) : hv_CL p l e R s m args below meth c Q D cl b sa cA nL pc (kc, ks) (some ci) as h rv h' := by
  intro H locs la nc ns rest hla hrc hP hS hrest hlim kk
  simp only [hv_rc] at hrc
  split at hrc
  · rename_i a as'
    refine hv_after (va_runI (As := as'.map (hv_cv b sa)) (b := b + a) (rest := rest) S hM cw ⟨hv_blind hKb, hv_pre hKm hb0 hP hS⟩ rfl ?_ hla ?_ (lv_room hrest) hd hlim) hS kk
    · rw [List.length_map]
      simpa using hlen
    · show ((hv_cv b sa (.ref a) :: as'.map (hv_cv b sa)).reverse ++ rest) = _
      rw [List.reverse_cons, List.append_assoc]
      rfl
  · cases hrc
theorem hv_clIN (S : CallFix p m c cc nL s args Ts own) (hM : Met l y ws rm (hv_Pc D cl b sa cA Kx as h) (hv_Qc D cl b sa cA rv h') kc ks (fun q => b ≤ q)) (hKm : ∀ U : State, s.WarmedH U.vm → (∀ q : Nat, q < b → U.heap[q]? = s.heap[q]?) → Kx U) (hKb : ∀ (U : State) (g : JFrame) (mk : MethodId) (a : Array Value), Kx U → Kx (U.calling g mk a)) (hb0 : b ≤ s.heap.size) {ci : Nat} (cw : va_CN R s args own index y host bytes maxL none ws rm kc ks n ∧ y.name = "<init>" ∧ (Jvm.Cond.instanceMethod y).before args s = true) (hlen : as.length = n + 1) (hd : decode cc pc = .ok (.invokespecial index, 3)) : hv_CL p l e R s m args below meth c Q D cl b sa cA nL pc (kc, ks) (some ci) as h rv h' := by
  intro H locs la nc ns rest hla hrc hP hS hrest hlim kk
  simp only [hv_rc] at hrc
  split at hrc
  · rename_i a as'
    refine hv_after (va_runIN (As := as'.map (hv_cv b sa)) (b := b + a) (rest := rest) S hM cw ⟨hv_blind hKb, hv_pre hKm hb0 hP hS⟩ rfl ?_ hla ?_ (lv_room hrest) hd hlim) hS kk
    · rw [List.length_map]
      simpa using hlen
    · show ((hv_cv b sa (.ref a) :: as'.map (hv_cv b sa)).reverse ++ rest) = _
      rw [List.reverse_cons, List.append_assoc]
      rfl
  · cases hrc
end HVC
