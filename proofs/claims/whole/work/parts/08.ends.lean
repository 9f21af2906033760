/-! Copies, ends, calls. -/
/-- a method's start: its values, the cells, the tables; its end: the answer, the cells, nothing below b changed -/
def hv_Pc (D : va_G) (cl : List vw_C) (b : Nat) (sa : Nat → Nat) (cA : Nat → ClassId) (Kx : State → Prop) (as : List Value) (h : hv_H) : Array Value → State → Prop := fun v U => v = (as.map (hv_cv b sa)).toArray ∧ hv_P D cl b sa cA h U.heap ∧ Kx U
def hv_Qc (D : va_G) (cl : List vw_C) (b : Nat) (sa : Nat → Nat) (cA : Nat → ClassId) (rv : Option Value) (h : hv_H) : Array Value → State → Outcome → State → Prop := fun _ st o t => o = .returned (rv.map (hv_cv b sa)) ∧ hv_P D cl b sa cA h t.heap ∧ st.heap.size ≤ t.heap.size ∧ ∀ q : Nat, q < b → t.heap[q]? = st.heap[q]?
section HVE
variable {p : Program} {l : Launch} {e : Env} {R : Room} {s : State} {m : MethodId} {args : Array Value} {below : List Frame} {meth : Method} {c : Code} {Q : State → Prop} {cc : ByteArray} {nL : Nat} {D : va_G} {cl : List vw_C} {b : Nat} {sa : Nat → Nat} {cA : Nat → ClassId} {Fn : hv_R → Prop} {pc : Nat} {lb : List Nat}
  {cm : Nat → Nat × Nat} {vk : Nat → Option Nat} {dv : Nat → List Value} {ft : Nat → Nat → FieldType} {mc ms : Nat} {rt : Option FieldType} {call : hv_F}
theorem hv_nn (z : Int32) (hz : ¬ z < 0) : z.toInt = (z.toNatClampNeg : Int) := by
  have hz0 : (0 : Int) ≤ z.toInt := by
    have := Int32.not_lt.mp hz
    simpa using Int32.le_iff_toInt_le.mp this
  show z.toInt = ((z.toInt.toNat : Nat) : Int)
  omega
theorem hv_t_arraycopy (hx : p.tables.exec = Jvm.exec) (hb : c.code = cc) (hml : c.maxLocals = nL) {own : String} {idx k : Nat} (hown : s.vm.findClass own = some m.cls) (hlink : (Jvm.Cond.methodLink own idx arraycopyName).before args s = true) (hnat : (Jvm.Cond.native arraycopyName).before args s = true) (hstat : (Jvm.Cond.static arraycopyName).before args s = true) (hini : (Jvm.Cond.initialized "java/lang/System").before args s = true) (hK : va_K D cl (hv_tys cA) s) (hRf : 1 ≤ R.frames) (hRl : 100 ≤ R.locals) (hd : decode cc pc = .ok (.invokestatic idx, 3)) : hv_I (hv_SW p l e R s m args below meth c Q D cl b sa cA nL) Fn pc lb (hv_step cm vk dv ft mc ms rt call (.invokestatic k)) (pc + 3) := by
  rintro ⟨ls, st, h, nc, ns⟩ r hr ok
  simp only [hv_step] at hr
  split at hr
  · rename_i n dp a1 sp a0 st'
    split at hr
    · rename_i n0 f n1 g ha0 ha1
      split at hr
      · rename_i hlim
        obtain ⟨hw, h1, h2, h3, h4, h5⟩ := hlim
        cases Option.some.inj hr
        intro H locs la hl hP hS
        intro T hT X
        have hc0 : H[b + a0]? = some (vp_cell (cA 0) (n0, .inl f)) := hP.2 a0 _ ha0
        have hc1 : H[b + a1]? = some (vp_cell (cA 0) (n1, .inl g)) := hP.2 a1 _ ha1
        obtain ⟨-, k0, hk0, cm0, hkk0⟩ := (hK.2 0 _ rfl).1 n0 (fun j => .int (f j))
        obtain ⟨-, k1, hk1, cm1, hkk1⟩ := (hK.2 0 _ rfl).1 n1 (fun j => .int (g j))
        obtain ⟨vm', X', step⟩ := X.arraycopy hx hown hlink hnat hstat hini (src := b + a0) (dst := b + a1) (cs := vp_cell (cA 0) (n0, .inl f)) (cd := vp_cell (cA 0) (n1, .inl g)) (srcPos := sp) (destPos := dp) (n := n) (by rw [hT]; exact hc0) (by rw [hT]; exact hc1)
          (fun _ h => by cases h) (fun _ h => by cases h) (fun h => by cases h) (fun h => by cases h) hk0 hk1 hkk0 hkk1 (by simp [refKind]) h1 h2 h3
          (by rw [hv_nn sp h1, hv_nn n h3]; show ¬ _ > ((arrV (cA 0) n0 (fun j => .int (f j))).slots.size : Int); rw [arrV_size]; omega)
          (by rw [hv_nn dp h2, hv_nn n h3]; show ¬ _ > ((arrV (cA 0) n1 (fun j => .int (g j))).slots.size : Int); rw [arrV_size]; omega)
          (fun vm₁ _ i hi => by
            have e : (vp_cell (cA 0) (n0, .inl f)).slots.getD (sp.toNatClampNeg + i) .null = .int (f (sp.toNatClampNeg + i)) := by
              show (arrV (cA 0) n0 (fun j => .int (f j))).slots.getD _ _ = _
              rw [Array.getD_eq_getD_getElem?, arrV_read _ _ (by omega)]
              rfl
            refine ⟨?_, ?_⟩
            · rw [e]
              rfl
            · rw [e]
              exact trivial)
          (g := F0 m pc la (.int n :: .int dp :: .ref (b + a1) :: .int sp :: .ref (b + a0) :: st'.map (hv_cv b sa))) rfl (by rw [hml]; exact hl.2.1) (rest := st'.map (hv_cv b sa)) rfl (by rw [hb]; exact hd) hRf (by
            show 2 * 0 + _ + _ ≤ _
            rw [hv_w_eq]
            have : nativeFrameWords "java/lang/System" "arraycopy" 5 + 11 ≤ 90 := by decide
            omega)
        have e1 : copied (vp_cell (cA 0) (n0, .inl f)) (vp_cell (cA 0) (n1, .inl g)) sp dp n = vp_cell (cA 0) (n1, .inl (va_cpy f g sp.toNatClampNeg dp.toNatClampNeg n.toNatClampNeg)) := va_copied (fun z => .int z) (cA 0) (cA 0) f g h4
        rw [e1] at X' step
        have hlt : b + a1 < H.size := (Array.getElem?_eq_some_iff.mp hc1).1
        have hheap : ((T.setVm vm').setCell (b + a1) (vp_cell (cA 0) (n1, .inl (va_cpy f g sp.toNatClampNeg dp.toNatClampNeg n.toNatClampNeg)))).heap = H.setIfInBounds (b + a1) (vp_cell (cA 0) (n1, .inl (va_cpy f g sp.toNatClampNeg dp.toNatClampNeg n.toNatClampNeg))) := by rw [← hT]; rfl
        have oq : ∀ q : Nat, q ≠ b + a1 → (H.setIfInBounds (b + a1) (vp_cell (cA 0) (n1, .inl (va_cpy f g sp.toNatClampNeg dp.toNatClampNeg n.toNatClampNeg))))[q]? = H[q]? := fun q hq => by simp [Array.getElem?_setIfInBounds, Ne.symm hq]
        obtain ⟨t, a9, b9⟩ := ok _ _ la hl (hP.set (x := .inl (0, n1, .inl (va_cpy f g sp.toNatClampNeg dp.toNatClampNeg n.toNatClampNeg))) ha1 (by simp) (show (H.setIfInBounds (b + a1) _)[b + a1]? = some _ by simp [Array.getElem?_setIfInBounds, hlt]; rfl) oq) ⟨by simp; exact hS.1, fun q g1 g2 => by
            rw [oq q (fun e => g2 (by omega))]
            exact hS.2.1 q g1 g2, fun q hq => by
            rcases List.mem_append.mp hq with h | h
            · exact hS.2.2 q h
            · obtain ⟨z, -, hz⟩ := List.mem_map.mp h
              rw [← hz]
              exact Nat.le_add_right b a1⟩ _ hheap X'
        exact ⟨t, step t a9, b9⟩
      · cases hr
    · cases hr
  · cases hr
theorem hv_t_ireturn (hx : p.tables.exec = Jvm.exec) (hb : c.code = cc) {Qc : Array Value → State → Outcome → State → Prop} {free : Addr → Prop} (hQ : Q = MQ below Qc args s mc ms free) (hr0 : meth.sig.returnType = rt) (hlk : meth.locks = false) (hfree : ∀ q, b ≤ q → free q)
    (hq : ∀ (rv : Option Value) (h : hv_H) (H : Heap) (locs : List Loc) (t : State), Fn (rv, h) → hv_P D cl b sa cA h H → va_S (fun q => b ≤ q) s.heap H locs → t.heap = H → s.WarmedH t.vm → Qc args s (.returned (rv.map (hv_cv b sa))) t) (hd : decode cc pc = .ok (.ireturn, 1)) : hv_I (hv_SW p l e R s m args below meth c Q D cl b sa cA nL) Fn pc lb (hv_step cm vk dv ft mc ms rt call .ireturn) (pc + 1) := by
  rintro ⟨ls, st, h, nc, ns⟩ r hr ok
  simp only [hv_step] at hr
  split at hr
  · rename_i v
    split at hr
    · rename_i ty
      split at hr
      · rename_i hn
        cases Option.some.inj hr
        intro H locs la hl hP hS
        subst hQ
        refine W.widen hn.2.1 hn.2.2 ?_
        exact W.zret hx hb hr0 hn.1 (fun t ht hW => hq _ _ H locs t ok hP hS ht hW) (fun q h => hfree _ (hS.2.2 q h)) hd hlk
      · cases hr
    · cases hr
  · cases hr
theorem hv_t_lreturn (hx : p.tables.exec = Jvm.exec) (hb : c.code = cc) {Qc : Array Value → State → Outcome → State → Prop} {free : Addr → Prop} (hQ : Q = MQ below Qc args s mc ms free) (hr0 : meth.sig.returnType = rt) (hlk : meth.locks = false) (hfree : ∀ q, b ≤ q → free q)
    (hq : ∀ (rv : Option Value) (h : hv_H) (H : Heap) (locs : List Loc) (t : State), Fn (rv, h) → hv_P D cl b sa cA h H → va_S (fun q => b ≤ q) s.heap H locs → t.heap = H → s.WarmedH t.vm → Qc args s (.returned (rv.map (hv_cv b sa))) t) (hd : decode cc pc = .ok (.lreturn, 1)) : hv_I (hv_SW p l e R s m args below meth c Q D cl b sa cA nL) Fn pc lb (hv_step cm vk dv ft mc ms rt call .lreturn) (pc + 1) := by
  rintro ⟨ls, st, h, nc, ns⟩ r hr ok
  simp only [hv_step] at hr
  split at hr
  · rename_i v
    split at hr
    · rename_i hn
      cases Option.some.inj hr
      intro H locs la hl hP hS
      subst hQ
      refine W.widen hn.2.1 hn.2.2 ?_
      exact W.lret hx hb (hr0.trans hn.1) (fun t ht hW => hq _ _ H locs t ok hP hS ht hW) (fun q h => hfree _ (hS.2.2 q h)) hd hlk
    · cases hr
  · cases hr
theorem hv_t_areturn (hx : p.tables.exec = Jvm.exec) (hb : c.code = cc) {Qc : Array Value → State → Outcome → State → Prop} {free : Addr → Prop} {ty : FieldType} (hQ : Q = MQ below Qc args s mc ms free) (hr0 : meth.sig.returnType = some ty) (hty : (∃ n, ty = .object n) ∨ ∃ t, ty = .array t) (hlk : meth.locks = false) (hfree : ∀ q, b ≤ q → free q)
    (hq : ∀ (rv : Option Value) (h : hv_H) (H : Heap) (locs : List Loc) (t : State), Fn (rv, h) → hv_P D cl b sa cA h H → va_S (fun q => b ≤ q) s.heap H locs → t.heap = H → s.WarmedH t.vm → Qc args s (.returned (rv.map (hv_cv b sa))) t) (hd : decode cc pc = .ok (.areturn, 1)) : hv_I (hv_SW p l e R s m args below meth c Q D cl b sa cA nL) Fn pc lb (hv_step cm vk dv ft mc ms rt call .areturn) (pc + 1) := by
  rintro ⟨ls, st, h, nc, ns⟩ r hr ok
  simp only [hv_step] at hr
  split at hr
  · rename_i v
    split at hr
    · rename_i hn
      cases Option.some.inj hr
      intro H locs la hl hP hS
      subst hQ
      refine W.widen hn.1 hn.2 ?_
      exact W.aret hx hb hr0 hty (Or.inr ⟨_, rfl⟩) (fun t ht hW => hq _ _ H locs t ok hP hS ht hW) (fun q h => hfree _ (hS.2.2 q h)) hd hlk
    · cases hr
  · split at hr
    · rename_i hn
      cases Option.some.inj hr
      intro H locs la hl hP hS
      subst hQ
      refine W.widen hn.1 hn.2 ?_
      exact W.aret hx hb hr0 hty (Or.inl rfl) (fun t ht hW => hq _ _ H locs t ok hP hS ht hW) (fun q h => hfree _ (hS.2.2 q h)) hd hlk
    · cases hr
  · cases hr
theorem hv_t_return (hx : p.tables.exec = Jvm.exec) (hb : c.code = cc) {Qc : Array Value → State → Outcome → State → Prop} {free : Addr → Prop} (hQ : Q = MQ below Qc args s mc ms free) (hr0 : meth.sig.returnType = none) (hlk : meth.locks = false) (hfree : ∀ q, b ≤ q → free q)
    (hq : ∀ (rv : Option Value) (h : hv_H) (H : Heap) (locs : List Loc) (t : State), Fn (rv, h) → hv_P D cl b sa cA h H → va_S (fun q => b ≤ q) s.heap H locs → t.heap = H → s.WarmedH t.vm → Qc args s (.returned (rv.map (hv_cv b sa))) t) (hd : decode cc pc = .ok (.return_, 1)) : hv_I (hv_SW p l e R s m args below meth c Q D cl b sa cA nL) Fn pc lb (hv_step cm vk dv ft mc ms rt call .return_) (pc + 1) := by
  rintro ⟨ls, st, h, nc, ns⟩ r hr ok
  simp only [hv_step] at hr
  split at hr
  · split at hr
    · rename_i hn
      cases Option.some.inj hr
      intro H locs la hl hP hS
      subst hQ
      refine W.widen hn.1 hn.2 ?_
      exact W.vret hx hb hr0 (fun t ht hW => hq _ _ H locs t ok hP hS ht hW) (fun q h => hfree _ (hS.2.2 q h)) hd hlk
    · cases hr
  · cases hr
/-- behind a call that ran as its contract says -/
theorem hv_after {H : Heap} {locs : List Loc} {la : Array Slot} {st0 rest : List Value} {nc ns kc ks : Nat} {rv : Option Value} {h' : hv_H} {a : Array Value} (hr : va_Run p l e R s m args below meth c H locs nc ns kc ks (F0 m pc la st0) rest (hv_Qc D cl b sa cA rv h' a) (fun q => b ≤ q)) (hS : va_S (fun q => b ≤ q) s.heap H locs)
    (kk : ∀ (H' : Heap) (locs' : List Loc), hv_P D cl b sa cA h' H' → va_S (fun q => b ≤ q) s.heap H' locs' → W p l e R s m args below meth c H' locs' (nc + kc) (ns + ks) Q (F0 m (pc + 3) la ((rv.map (hv_cv b sa)).toList ++ rest))) : W p l e R s m args below meth c H locs nc ns Q (F0 m pc la st0) := by
  intro T hT X
  obtain ⟨v, st₀, t, T', L, h0, X', hL, e1, e2, ⟨hv, hP', hz, hk⟩, st⟩ := hr T hT X
  cases hv
  rw [h0] at hz hk
  obtain ⟨t2, a1, b1⟩ := kk T'.heap (locs ++ L) (by rw [e1]; exact hP') ⟨Nat.le_trans hS.1 (by rw [e1]; exact hz), fun q h1 h2 => by rw [e1, hk q (Nat.lt_of_not_le h2)]; exact hS.2.1 q h1 h2, fun q hq => by
      rcases List.mem_append.mp hq with h | h
      · exact hS.2.2 q h
      · exact hL q h⟩ T' rfl X'
  exact ⟨t2, st t2 a1, b1⟩
/-- what a caller needs of a callee, in any of its forms -/
def hv_CL (p : Program) (l : Launch) (e : Env) (R : Room) (s : State) (m : MethodId) (args : Array Value) (below : List Frame) (meth : Method) (c : Code) (Q : State → Prop) (D : va_G) (cl : List vw_C) (b : Nat) (sa : Nat → Nat) (cA : Nat → ClassId) (nL pc : Nat) (k : Nat × Nat) (rc : Option Nat) (as : List Value) (h : hv_H) (rv : Option Value) (h' : hv_H) : Prop :=
  ∀ (H : Heap) (locs : List Loc) (la : Array Slot) (nc ns : Nat) (rest : List Value), la.size = nL → hv_rc rc as h = true → hv_P D cl b sa cA h H → va_S (fun q => b ≤ q) s.heap H locs → (rest.map fun v => v.category).sum ≤ 8 → nc + k.1 ≤ R.cells ∧ ns + k.2 ≤ R.slots →
    (∀ (H' : Heap) (locs' : List Loc), hv_P D cl b sa cA h' H' → va_S (fun q => b ≤ q) s.heap H' locs' → W p l e R s m args below meth c H' locs' (nc + k.1) (ns + k.2) Q (F0 m (pc + 3) la ((rv.map (hv_cv b sa)).toList ++ rest))) →
    W p l e R s m args below meth c H locs nc ns Q (F0 m pc la ((as.map (hv_cv b sa)).reverse ++ rest))
theorem hv_t_call (hx : p.tables.exec = Jvm.exec) (hb : c.code = cc) {j n : Nat} (hRc : mc ≤ R.cells) (hRs : ms ≤ R.slots) (hcl : ∀ (as : List Value) (h : hv_H) (rv : Option Value) (h' : hv_H), as.length = n → call j as h = some (rv, h') → hv_CL p l e R s m args below meth c Q D cl b sa cA nL pc (cm j) (vk j) as h rv h') : hv_I (hv_SW p l e R s m args below meth c Q D cl b sa cA nL) Fn pc lb (hv_step cm vk dv ft mc ms rt call (.invokeinterface j n)) (pc + 3) := by
  rintro ⟨ls, st, h, nc, ns⟩ r hr ok
  simp only [hv_step] at hr
  split at hr
  · rename_i hlim
    obtain ⟨hn, hw, h1, h2, h3⟩ := hlim
    split at hr
    · rename_i rv h' hc
      cases Option.some.inj hr
      intro H locs la hl hP hS
      have k1 := hcl _ h rv h' (by simp [hn]) hc H locs la nc ns ((st.drop n).map (hv_cv b sa)) hl.2.1 h3 hP hS (by rw [hv_w_eq]; exact hw) ⟨Nat.le_trans h1 hRc, Nat.le_trans h2 hRs⟩ (fun H' locs' hP' hS' => by
        have k2 := ok H' locs' la hl hP' hS'
        simp only [List.map_append] at k2
        rw [show rv.toList.map (hv_cv b sa) = (rv.map (hv_cv b sa)).toList by cases rv <;> rfl] at k2
        exact k2)
      rw [List.map_reverse, List.reverse_reverse, ← List.map_append, List.take_append_drop] at k1
      exact k1
    · cases hr
  · cases hr
end HVE
