/-! New cells, stores of references, copies, ends, calls. -/
section HVW
variable {p : Program} {l : Launch} {e : Env} {R : Room} {s : State} {m : MethodId} {args : Array Value} {below : List Frame} {meth : Method} {c : Code} {Q : State → Prop} {cc : ByteArray} {nL : Nat} {D : va_G} {cl : List vw_C} {b : Nat} {sa : Nat → Nat} {cA : Nat → ClassId} {Fn : hv_R → Prop} {pc : Nat} {lb : List Nat}
  {cm : Nat → Nat × Nat} {vk : Nat → Option Nat} {dv : Nat → List Value} {ft : Nat → Nat → FieldType} {mc ms : Nat} {rt : Option FieldType} {call : hv_F}
theorem hv_cv_default (ty : FieldType) : hv_cv b sa (defaultValue ty) = defaultValue ty := by cases ty <;> rfl
theorem hv_t_new (hx : p.tables.exec = Jvm.exec) (hb : c.code = cc) {own C : String} {T : u_T} {N idx ci : Nat} {Ts : List Jvm.Cond} (hts : ∀ w ∈ Ts, w.before args s = true) (hin : ∀ w ∈ u_ws C T N, w ∈ Ts) (hown : s.vm.findClass own = some m.cls) (hK : va_K D cl (hv_tys cA) s) (hc : cl[ci]? = some (C, T, N)) (hty : ∀ k, k < N → parseFieldDescriptor (T k).2.2.1 = some (ft ci k))
    (hdl : (dv ci).length = N) (hdv : ∀ j, j < N → (dv ci)[j]? = some (defaultValue (ft ci j))) (hcl : (Jvm.Cond.classLink own idx C).before args s = true) (hinst : (Jvm.Cond.instantiable C N).before args s = true) (hini : (Jvm.Cond.initialized C).before args s = true) (hRc : mc ≤ R.cells) (hRs : ms ≤ R.slots) (hd : decode cc pc = .ok (.new idx, 3)) : hv_I (hv_SW p l e R s m args below meth c Q D cl b sa cA nL) Fn pc lb (hv_step cm vk dv ft mc ms rt call (.new ci)) (pc + 3) := by
  rintro ⟨ls, st, h, nc, ns⟩ r hr ok
  simp only [hv_step] at hr
  split at hr
  · rename_i hlim
    cases Option.some.inj hr
    intro H locs la hl hP hS
    have hKn := hK.1 ci _ hc
    refine W.newcK hx hb hown hcl hinst hini rfl hd (Nat.le_trans hlim.1 hRc) (by rw [← hdl]; exact Nat.le_trans hlim.2 hRs) hKn.2.1 rfl fun H1 kC hkC e1 z1 o1 => ?_
    have k1 := ok H1 locs la hl (hP.push (x := .inr (ci, dv ci)) z1 ⟨_, hc, ?_⟩ o1) (hv_S_new hS z1 o1)
    · have e9 : H.size = b + h.length := hP.1
      rw [hdl] at k1
      rw [e9]
      exact k1
    · have e9 : b + h.length = H.size := hP.1.symm
      rw [e9]
      refine (u_born (ft ci) hts hin hKn hkC e1 hty).to (fun j hj => ?_)
      have hdj := hdv j hj
      simp [vp_V, hdj, hv_cv_default]
  · cases hr
theorem hv_ra {t : Nat} {ty : FieldType} {k : ClassId} (hK : va_K D cl (hv_tys cA) s) (ht : (hv_tys cA)[t]? = some (cA t, ty)) (h : s.vm.findClass ("[" ++ ty.toString) = some k) : k = cA t := by
  have h2 := (hK.2 t _ ht).2
  cases ty with
  | object C =>
    obtain ⟨-, -, -, -, -, h4⟩ := h2
    exact Option.some.inj (h.symm.trans h4)
  | _ => exact Option.some.inj (h.symm.trans h2)
theorem hv_t_newarray (hx : p.tables.exec = Jvm.exec) (hb : c.code = cc) {ty : ArrayType} (hK : va_K D cl (hv_tys cA) s) (harr : (Jvm.Cond.arrayClass (newarray.typeOf ty)).before args s = true) (hRc : mc ≤ R.cells) (hRs : ms ≤ R.slots) (hd : decode cc pc = .ok (.newarray ty, 2)) : hv_I (hv_SW p l e R s m args below meth c Q D cl b sa cA nL) Fn pc lb (hv_step cm vk dv ft mc ms rt call (.newarray ty)) (pc + 2) := by
  rintro ⟨ls, st, h, nc, ns⟩ r hr ok
  simp only [hv_step] at hr
  split at hr
  · rename_i n st'
    split at hr
    · rename_i hlim
      obtain ⟨hn, hN, hlc, hls⟩ := hlim
      have key : ∀ (t : Nat) (a0 : vp_A), (hv_tys cA)[t]? = some (cA t, newarray.typeOf ty) → (∀ k : ClassId, vp_cell k a0 = arrV k n.toNatClampNeg (fun _ => defaultValue (newarray.typeOf ty))) → hv_ca b a0 = a0 → componentBytes (newarray.typeOf ty) ≤ 8 → r = .inl (0, ls, .ref h.length :: st', h ++ [.inl (t, a0)], nc + 1, ns + n.toNatClampNeg) → hv_SW p l e R s m args below meth c Q D cl b sa cA nL pc (ls, .int n :: st', h, nc, ns) := by
        intro t a0 ht ha hca hcb hr
        subst hr
        intro H locs la hl hP hS
        refine va_newaK hx hb harr rfl hd rfl hn rfl (Nat.le_trans (Nat.mul_le_mul hN hcb) (by decide)) (Nat.le_trans hlc hRc) (Nat.le_trans hls hRs) rfl fun H1 k e1 z1 o1 hAr hNm => ?_
        have ek := hv_ra hK ht hNm
        subst ek
        have k1 := ok H1 locs la hl (hP.push (x := .inl (t, a0)) z1 ?_ o1) (hv_S_new hS z1 o1)
        · rw [show H.size = b + h.length from hP.1]
          exact k1
        · show H1[b + h.length]? = some (vp_cell (cA t) (hv_ca b a0))
          rw [hca, ha, ← hP.1]
          exact e1
      split at hr
      · exact key 0 _ rfl (fun _ => rfl) rfl (by decide) (Option.some.inj hr).symm
      · exact key 1 _ rfl (fun _ => rfl) rfl (by decide) (Option.some.inj hr).symm
      · exact key 2 _ rfl (fun _ => rfl) rfl (by decide) (Option.some.inj hr).symm
      · exact key 3 _ rfl (fun _ => rfl) rfl (by decide) (Option.some.inj hr).symm
      · cases hr
    · cases hr
  · cases hr
theorem hv_t_anewarray (hx : p.tables.exec = Jvm.exec) (hb : c.code = cc) {t idx : Nat} {own C : String} (hK : va_K D cl (hv_tys cA) s) (hown : s.vm.findClass own = some m.cls) (hclink : (Jvm.Cond.classLink own idx C).before args s = true) (hover : (Jvm.Cond.arrayOver (.object C)).before args s = true) (ht : (hv_tys cA)[t]? = some (cA t, .object C)) (hRc : mc ≤ R.cells) (hRs : ms ≤ R.slots) (hd : decode cc pc = .ok (.anewarray idx, 3)) : hv_I (hv_SW p l e R s m args below meth c Q D cl b sa cA nL) Fn pc lb (hv_step cm vk dv ft mc ms rt call (.anewarray t)) (pc + 3) := by
  rintro ⟨ls, st, h, nc, ns⟩ r hr ok
  simp only [hv_step] at hr
  split at hr
  · rename_i n st'
    split at hr
    · rename_i hlim
      obtain ⟨-, hn, hN, hlc, hls⟩ := hlim
      cases Option.some.inj hr
      intro H locs la hl hP hS
      refine W.anew hx hb hown hclink hover rfl hd rfl hn (Nat.le_trans (Nat.mul_le_mul_right 4 hN) (by decide)) (Nat.le_trans hlc hRc) (Nat.le_trans hls hRs) fun k kA comp f1 f2 f3 f4 => ?_
      have ek := hv_ra hK ht f1
      subst ek
      generalize hH1 : H.push ({ cls := cA t, slots := Array.replicate n.toNatClampNeg .null, vm := .none } : Cell) = H1
      have z1 : H1.size = H.size + 1 := by rw [← hH1, Array.size_push]
      have e1 : H1[H.size]? = some (arrV (cA t) n.toNatClampNeg (fun _ => .null)) := by rw [← hH1, Array.getElem?_push_size, ← arrV_new]
      have o1 : ∀ q : Nat, q < H.size → H1[q]? = H[q]? := fun q hq => by rw [← hH1, Array.getElem?_push, if_neg (Nat.ne_of_lt hq)]
      have k1 := ok H1 locs la hl (hP.push (x := .inl (t, n.toNatClampNeg, .inr (.inr (.inr (.inr (fun _ => none)))))) z1 ?_ o1) (hv_S_new hS z1 o1)
      · rw [show H.size = b + h.length from hP.1]
        exact k1
      · show H1[b + h.length]? = some (arrV (cA t) n.toNatClampNeg (fun _ => .null))
        rw [← hP.1]
        exact e1
    · cases hr
  · cases hr
theorem hv_t_objInit (hx : p.tables.exec = Jvm.exec) (hb : c.code = cc) (hml : c.maxLocals = nL) {own : String} {idx k : Nat} (hown : s.vm.findClass own = some m.cls) (hlink : (Jvm.Cond.methodLink own idx Lib.objectInit).before args s = true) (hinst : (Jvm.Cond.instanceMethod Lib.objectInit).before args s = true) (hcode : (Jvm.Cond.code Lib.objectInit ⟨#[0xb1]⟩ 1 none).before args s = true) (hRf : 1 ≤ R.frames) (hRl : 100 ≤ R.locals) (hd : decode cc pc = .ok (.invokespecial idx, 3)) : hv_I (hv_SW p l e R s m args below meth c Q D cl b sa cA nL) Fn pc lb (hv_step cm vk dv ft mc ms rt call (.invokespecial k)) (pc + 3) := by
  rintro ⟨ls, st, h, nc, ns⟩ r hr ok
  simp only [hv_step] at hr
  split at hr
  · rename_i a st'
    split at hr
    · rename_i hw
      cases Option.some.inj hr
      intro H locs la hl hP hS
      refine W.objInit hx hb hown hlink hinst hcode rfl (by rw [hml]; exact hl.2.1) rfl hd hRf ?_ (ok H locs la hl hP hS)
      show 2 * 0 + _ + 12 ≤ _
      rw [hv_w_eq]
      omega
    · cases hr
  · cases hr
theorem hv_t_aastore (hx : p.tables.exec = Jvm.exec) (hb : c.code = cc) (hK : va_K D cl (hv_tys cA) s) (hc9 : ∃ (T : u_T) (N : Nat), cl[9]? = some ("HardestVows$Whole", T, N)) (hc1 : ∃ (T : u_T) (N : Nat), cl[1]? = some ("HardestVows$Code", T, N)) (hd : decode cc pc = .ok (.aastore, 1)) : hv_I (hv_SW p l e R s m args below meth c Q D cl b sa cA nL) Fn pc lb (hv_step cm vk dv ft mc ms rt call .aastore) (pc + 1) := by
  rintro ⟨ls, st, h, nc, ns⟩ r hr ok
  simp only [hv_step] at hr
  split at hr
  · rename_i x i a st'
    split at hr
    · rename_i t n f ha
      split at hr
      · rename_i hlim
        obtain ⟨hk, hin⟩ := hlim
        cases Option.some.inj hr
        intro H locs la hl hP hS
        have hlt : i.toNatClampNeg < n := Nat.not_le.mp fun q => hin (Or.inr q)
        have h0 : ¬ i < 0 := fun q => hin (Or.inl q)
        have key : ∀ (ci : Nat) (C : String), hv_rc (some ci) [.ref x] h = true → (∃ (T : u_T) (N : Nat), cl[ci]? = some (C, T, N)) → (hv_tys cA)[t]? = some (cA t, .object C) → W p l e R s m args below meth c H locs nc ns Q (F0 m pc la ((.ref x :: .int i :: .ref a :: st').map (hv_cv b sa))) := by
          intro ci C hrc hcl ht
          obtain ⟨TT, NN, hcl⟩ := hcl
          simp only [hv_rc] at hrc
          split at hrc
          · rename_i cj vs hxc
            have hcj : cj = ci := by simpa using hrc
            subst hcj
            obtain ⟨r', hr', cellV, g1, g2, g3, -⟩ := hP.2 x _ hxc
            have hcls := (hK.1 _ _ hcl).2
            obtain ⟨kA, comp, k1, k2, k3, -⟩ := (hK.2 t _ ht).2
            have hcomp : comp = D.1 cj := Option.some.inj (k3.symm.trans hcls.1)
            subst hcomp
            have hcls2 := hcls
            obtain ⟨kC, hkC, -⟩ := hcls2.2
            have hcell : H[b + a]? = some (vp_cell (cA t) (n, .inr (.inr (.inr (.inr (fun j => (f j).map (b + ·))))))) := hP.2 a _ ha
            refine W.aast (t := .object C) hx hb hcell (fun q h => by cases h) (fun h => by cases h) k1 k2 rfl hkC ⟨h0, by show _ < (arrV _ _ _).slots.size; rw [arrV_size]; exact hlt⟩ g1 (fun q h => by rw [g3] at h; cases h) (by rw [g2]; exact hkC) (by rw [g2]; exact va_assign hcls) rfl rfl hd fun H1 e1 z oq => ?_
            refine ok H1 _ la hl (hP.set ha z ?_ oq) (hS.put z oq (Nat.le_add_right b a))
            show H1[b + a]? = some (vp_cell _ _)
            rw [e1]
            show some ((arrV (cA t) n (fun j => va_rf ((f j).map (b + ·)))).setSlot _ _) = some (arrV (cA t) n (fun j => va_rf ((va_up f i.toNatClampNeg (some x) j).map (b + ·))))
            rw [arrV_store]
            congr 2
            funext q
            by_cases hq : q = i.toNatClampNeg
            · subst hq
              simp [updV, va_up, va_rf]
            · simp [updV, va_up, hq]
          · cases hrc
        rcases hk with ⟨rfl, hk⟩ | ⟨rfl, hk⟩
        · exact key 9 _ hk hc9 rfl
        · exact key 1 _ hk hc1 rfl
      · cases hr
    · cases hr
  · rename_i i a st'
    split at hr
    · rename_i t n f ha
      split at hr
      · rename_i hlim
        obtain ⟨hk, hin⟩ := hlim
        cases Option.some.inj hr
        intro H locs la hl hP hS
        have key : ∀ (C : String), (hv_tys cA)[t]? = some (cA t, .object C) → W p l e R s m args below meth c H locs nc ns Q (F0 m pc la ((.null :: .int i :: .ref a :: st').map (hv_cv b sa))) := by
          intro C ht
          have hcell : H[b + a]? = some (vp_cell (cA t) (n, .inr (.inr (.inr (.inr (fun j => (f j).map (b + ·))))))) := hP.2 a _ ha
          refine va_WaastN (C := C) hx hb hcell ((hK.2 t _ ht).1 n (fun j => va_rf ((f j).map (b + ·)))) (fun h => by cases h) (by show ¬ (i < 0 ∨ (arrV _ _ _).slots.size ≤ _); rw [arrV_size]; exact hin) rfl rfl hd fun H1 e1 z oq => ?_
          refine ok H1 _ la hl (hP.set ha z ?_ oq) (hS.put z oq (Nat.le_add_right b a))
          show H1[b + a]? = some (vp_cell _ _)
          rw [e1]
          show some ((arrV (cA t) n (fun j => va_rf ((f j).map (b + ·)))).setSlot _ _) = some (arrV (cA t) n (fun j => va_rf ((va_up f i.toNatClampNeg none j).map (b + ·))))
          rw [arrV_store]
          congr 2
          funext q
          by_cases hq : q = i.toNatClampNeg
          · subst hq
            simp [updV, va_up, va_rf]
          · simp [updV, va_up, hq]
        rcases hk with rfl | rfl
        · exact key _ rfl
        · exact key _ rfl
      · cases hr
    · cases hr
  · cases hr
end HVW
