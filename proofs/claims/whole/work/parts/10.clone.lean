/-! A row of ints copied whole. -/
section HVL
variable {p : Program} {l : Launch} {e : Env} {R : Room} {s : State} {m : MethodId} {args : Array Value} {below : List Frame} {meth : Method} {c : Code} {Q : State → Prop} {cc : ByteArray} {nL : Nat} {D : va_G} {cl : List vw_C} {b : Nat} {sa : Nat → Nat} {cA : Nat → ClassId} {Fn : hv_R → Prop} {pc : Nat} {lb : List Nat}
  {cm : Nat → Nat × Nat} {vk : Nat → Option Nat} {dv : Nat → List Value} {ft : Nat → Nat → FieldType} {mc ms : Nat} {rt : Option FieldType} {call : hv_F}
theorem hv_t_clone (hx : p.tables.exec = Jvm.exec) (hb : c.code = cc) (hml : c.maxLocals = nL) {own : String} {idx : Nat} (hown : s.vm.findClass own = some m.cls) (hlink : (Jvm.Cond.methodLink own idx ⟨"[I", "clone", "()Ljava/lang/Object;"⟩).before args s = true) (hsame : (Jvm.Cond.sameMethod "[I" "java/lang/Object" "clone" "()Ljava/lang/Object;").before args s = true)
    (hnat : (Jvm.Cond.native ⟨"java/lang/Object", "clone", "()Ljava/lang/Object;"⟩).before args s = true) (hinst : (Jvm.Cond.instanceMethod ⟨"java/lang/Object", "clone", "()Ljava/lang/Object;"⟩).before args s = true) (hsel : (Jvm.Cond.selects "[I" ⟨"[I", "clone", "()Ljava/lang/Object;"⟩ ⟨"java/lang/Object", "clone", "()Ljava/lang/Object;"⟩).before args s = true) (hcl : (Jvm.Cond.castable "[I" "java/lang/Cloneable").before args s = true)
    (hK : va_K D cl (hv_tys cA) s) (hRf : 1 ≤ R.frames) (hRl : 100 ≤ R.locals) (hRc : mc ≤ R.cells) (hRs : ms ≤ R.slots) (hd : decode cc pc = .ok (.invokevirtual idx, 3)) : hv_I (hv_SW p l e R s m args below meth c Q D cl b sa cA nL) Fn pc lb (hv_step cm vk dv ft mc ms rt call .swap) (pc + 3) := by
  rintro ⟨ls, st, h, nc, ns⟩ r hr ok
  simp only [hv_step] at hr
  split at hr
  · rename_i a st'
    split at hr
    · rename_i n f ha
      split at hr
      · rename_i hlim
        obtain ⟨hw, hlc, hls⟩ := hlim
        cases Option.some.inj hr
        intro H locs la hl hP hS
        have hnm : s.vm.findClass "[I" = some (cA 0) := (hK.2 0 _ rfl).2
        have hsz : (vp_cell (cA 0) (n, .inl f)).slots.size = n := arrV_size _ _ _
        have hfit : ∀ (i : Nat) (v : Value), (vp_cell (cA 0) (n, .inl f)).slots[i]? = some v → fits .int v = true := by
          intro i v hv
          have hi : i < n := by
            have := (Array.getElem?_eq_some_iff.mp hv).1
            rw [hsz] at this
            exact this
          have hv2 : (arrV (cA 0) n (fun j => .int (f j))).slots[i]? = some v := hv
          rw [arrV_read _ _ hi] at hv2
          cases Option.some.inj hv2
          rfl
        obtain ⟨c0, t0', f1, f2, f3⟩ := Cond.castable_spec hcl
        cases hnm.symm.trans f1
        intro T hT X
        have hcellT : T.heap[b + a]? = some (vp_cell (cA 0) (n, .inl f)) := by rw [hT]; exact hP.2 a _ ha
        obtain ⟨-, kA, hkA, comp, hkind⟩ := State.isArrayOf_alike X.warmed.alike ((hK.2 0 _ rfl).1 0 (fun _ => .null))
        obtain ⟨-, kS, hkS, compS, hkindS⟩ := (hK.2 0 _ rfl).1 0 (fun _ => .null)
        obtain ⟨vm', X', stp⟩ := X.cloneArray hx hown hlink hsame hnat hinst hsel (a := b + a) (cell := vp_cell (cA 0) (n, .inl f)) hcellT (fun k h => by cases h) (fun h => by cases h) hnm f2 f3
          (fun i v hv => by
            have hk' : T.vm.classes[cA 0]? = some kA := hkA
            have hcl0 : (vp_cell (cA 0) (n, .inl f)).cls = cA 0 := rfl
            rw [hcl0]
            simpa [State.fitsSlot, State.slotType?, hk', hkind] using hfit i v hv)
          (g := F0 m pc la (.ref (b + a) :: st'.map (hv_cv b sa))) rfl (by rw [hml]; exact hl.2.1) rfl (by rw [hb]; exact hd) hRf (by show 2 * 0 + _ + 14 ≤ _; rw [hv_w_eq]; omega) (Nat.le_trans hlc hRc) (by rw [hsz]; exact Nat.le_trans hls hRs) (hloader := Vm.clonesLoader_of_array hkS hkindS)
        have hcellE : ({ cls := (vp_cell (cA 0) (n, .inl f)).cls, slots := (vp_cell (cA 0) (n, .inl f)).slots } : Cell) = vp_cell (cA 0) (n, .inl f) := rfl
        rw [hcellE, hsz] at X'
        generalize hH1 : H.push (vp_cell (cA 0) (n, .inl f)) = H1
        have z1 : H1.size = H.size + 1 := by rw [← hH1, Array.size_push]
        have e1 : H1[H.size]? = some (vp_cell (cA 0) (n, .inl f)) := by rw [← hH1, Array.getElem?_push_size]
        have o1 : ∀ q : Nat, q < H.size → H1[q]? = H[q]? := fun q hq => by rw [← hH1, Array.getElem?_push, if_neg (Nat.ne_of_lt hq)]
        have k1 := ok H1 locs la hl (hP.push (x := .inl (0, n, .inl f)) z1 (by
          show H1[b + h.length]? = some (vp_cell (cA 0) (n, .inl f))
          rw [← hP.1]
          exact e1) o1) (hv_S_new hS z1 o1)
        obtain ⟨t, b1, b2⟩ := k1 _ (by rw [← hH1, ← hT]; rfl) X'
        refine ⟨t, stp t ?_, b2⟩
        have e9 : b + h.length = T.heap.size := by rw [hT, hP.1]
        rw [List.map_cons, show hv_cv b sa (.ref h.length) = .ref (b + h.length) from rfl, e9] at b1
        exact b1
      · cases hr
    · cases hr
  · cases hr
theorem hv_t_cast (hx : p.tables.exec = Jvm.exec) (hb : c.code = cc) {own : String} {idx k : Nat} (hown : s.vm.findClass own = some m.cls) (hlink : (Jvm.Cond.classLink own idx "[I").before args s = true) (hK : va_K D cl (hv_tys cA) s) (hd : decode cc pc = .ok (.checkcast idx, 3)) : hv_I (hv_SW p l e R s m args below meth c Q D cl b sa cA nL) Fn pc lb (hv_step cm vk dv ft mc ms rt call (.checkcast k)) (pc + 3) := by
  rintro ⟨ls, st, h, nc, ns⟩ r hr ok
  simp only [hv_step] at hr
  split at hr
  · rename_i a st'
    split at hr
    · rename_i n f ha
      cases Option.some.inj hr
      intro H locs la hl hP hS
      exact va_castA hx hb hown hlink (hP.one ha) 0 rfl (hK.2 0 _ rfl).2 hd (ok H locs la hl hP hS)
    · cases hr
  · cases hr
end HVL
