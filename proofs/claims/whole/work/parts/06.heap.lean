/-! Fields, arrays, new cells, ends. -/
section HVU
variable {p : Program} {l : Launch} {e : Env} {R : Room} {s : State} {m : MethodId} {args : Array Value} {below : List Frame} {meth : Method} {c : Code} {Q : State → Prop} {cc : ByteArray} {nL : Nat} {D : va_G} {cl : List vw_C} {b : Nat} {sa : Nat → Nat} {cA : Nat → ClassId} {Fn : hv_R → Prop} {pc : Nat} {lb : List Nat}
  {cm : Nat → Nat × Nat} {vk : Nat → Option Nat} {dv : Nat → List Value} {ft : Nat → Nat → FieldType} {mc ms : Nat} {rt : Option FieldType} {call : hv_F}
theorem hv_P.one {h : hv_H} {H : Heap} {k : Nat} {x : va_E} (hP : hv_P D cl b sa cA h H) (hk : h[k]? = some x) : va_P D cl [(b + k, hv_ce b sa cA x)] H := by
  intro j q hj
  have hz : j < 1 := (List.getElem?_eq_some_iff.mp hj).1
  have hj0 : j = 0 := by omega
  subst hj0
  cases Option.some.inj hj
  exact hP.2 k x hk
theorem hv_fok_spec {ty : FieldType} {v : Value} (h : hv_fok ty v = true) : narrow ty v = v ∧ fits ty v = true := by
  simpa [hv_fok] using h
theorem hv_cv_fok {ty : FieldType} {v : Value} (h : hv_fok ty v = true) : narrow ty (hv_cv b sa v) = hv_cv b sa v ∧ fits ty (hv_cv b sa v) = true := by
  obtain ⟨h1, h2⟩ := hv_fok_spec h
  cases v with
  | int x => exact ⟨h1, h2⟩
  | long x => exact ⟨h1, h2⟩
  | float x => exact ⟨h1, h2⟩
  | double x => exact ⟨h1, h2⟩
  | null => exact ⟨h1, h2⟩
  | ref x => exact ⟨by cases ty <;> rfl, by cases ty <;> first | rfl | cases h2⟩
  | retAddr x => exact ⟨by cases ty <;> rfl, by cases ty <;> cases h2⟩
theorem hv_t_getfield (hx : p.tables.exec = Jvm.exec) (hb : c.code = cc) {own C : String} {T : u_T} {N idx n : Nat} {Ts : List Jvm.Cond} (hts : ∀ w ∈ Ts, w.before args s = true) (hin : ∀ w ∈ u_ws C T N, w ∈ Ts) (hown : s.vm.findClass own = some m.cls) (hK : va_K D cl (hv_tys cA) s) (hc : cl[n / 100]? = some (C, T, N)) (hk : n % 100 < N) (hlink : (Jvm.Cond.fieldLink own idx (T (n % 100)).1 (T (n % 100)).2.1 (T (n % 100)).2.2.1).before args s = true) (hd : decode cc pc = .ok (.getfield idx, 3)) : hv_I (hv_SW p l e R s m args below meth c Q D cl b sa cA nL) Fn pc lb (hv_step cm vk dv ft mc ms rt call (.getfield n)) (pc + 3) := by
  rintro ⟨ls, st, h, nc, ns⟩ r hr ok
  simp only [hv_step] at hr
  split at hr
  · rename_i a st'
    split at hr
    · rename_i ci fs ha
      split at hr
      · rename_i hci
        split at hr
        · rename_i v hv
          cases Option.some.inj hr
          subst hci
          intro H locs la hl hP hS
          exact va_get (q0 := 0) (ci := n / 100) (fs := fs.map (hv_cv b sa)) (v := hv_cv b sa v) hx hb hts hin hown hK (hP.one ha) rfl hc (n % 100) hk hlink (fun _ z => z) (by rw [List.getElem?_map, hv]; rfl) hd (ok H locs la hl hP hS)
        · cases hr
      · cases hr
    · cases hr
  · cases hr
theorem hv_t_getfieldN (hx : p.tables.exec = Jvm.exec) (hb : c.code = cc) {own C : String} {T : u_T} {N idx n : Nat} {Ts : List Jvm.Cond} (hts : ∀ w ∈ Ts, w.before args s = true) (hin : ∀ w ∈ u_ws C T N, w ∈ Ts) (hown : s.vm.findClass own = some m.cls) (hK : va_K D cl (hv_tys cA) s) (hc : cl[n / 100]? = some (C, T, N)) (hk : n % 100 < N) {host : String} (hlink : (Jvm.Cond.fieldLinkNest own idx (T (n % 100)).1 (T (n % 100)).2.1 (T (n % 100)).2.2.1 host).before args s = true) (hd : decode cc pc = .ok (.getfield idx, 3)) : hv_I (hv_SW p l e R s m args below meth c Q D cl b sa cA nL) Fn pc lb (hv_step cm vk dv ft mc ms rt call (.getfield n)) (pc + 3) := by
  rintro ⟨ls, st, h, nc, ns⟩ r hr ok
  simp only [hv_step] at hr
  split at hr
  · rename_i a st'
    split at hr
    · rename_i ci fs ha
      split at hr
      · rename_i hci
        split at hr
        · rename_i v hv
          cases Option.some.inj hr
          subst hci
          intro H locs la hl hP hS
          exact va_getN (q0 := 0) (ci := n / 100) (fs := fs.map (hv_cv b sa)) (v := hv_cv b sa v) hx hb hts hin hown hK (hP.one ha) rfl hc (n % 100) hk hlink (fun _ z => z) (by rw [List.getElem?_map, hv]; rfl) hd (ok H locs la hl hP hS)
        · cases hr
      · cases hr
    · cases hr
  · cases hr
theorem hv_t_putfield (hx : p.tables.exec = Jvm.exec) (hb : c.code = cc) {own C : String} {T : u_T} {N idx n : Nat} {Ts : List Jvm.Cond} (hts : ∀ w ∈ Ts, w.before args s = true) (hin : ∀ w ∈ u_ws C T N, w ∈ Ts) (hown : s.vm.findClass own = some m.cls) (hK : va_K D cl (hv_tys cA) s) (hc : cl[n / 100]? = some (C, T, N)) (hk : n % 100 < N) (hty : ∀ k, k < N → parseFieldDescriptor (T k).2.2.1 = some (ft (n / 100) k)) (hnm : ∀ a, a < N → ∀ b, b < N → a ≠ b → (T a).2.1 ≠ (T b).2.1) (hlink : (Jvm.Cond.fieldLink own idx (T (n % 100)).1 (T (n % 100)).2.1 (T (n % 100)).2.2.1).before args s = true) (hfin : (T (n % 100)).2.2.2 = false) (hd : decode cc pc = .ok (.putfield idx, 3)) : hv_I (hv_SW p l e R s m args below meth c Q D cl b sa cA nL) Fn pc lb (hv_step cm vk dv ft mc ms rt call (.putfield n)) (pc + 3) := by
  rintro ⟨ls, st, h, nc, ns⟩ r hr ok
  simp only [hv_step] at hr
  split at hr
  · rename_i v a st'
    split at hr
    · rename_i ci fs ha
      split at hr
      · rename_i hci
        obtain ⟨hci, hlt, hfk⟩ := hci
        cases Option.some.inj hr
        subst hci
        intro H locs la hl hP hS
        · have hcv := hv_cv_fok (b := b) (sa := sa) hfk
          have hap := va_apart (own := own) hts hin (ft (n / 100)) hty hnm hK hc
          obtain ⟨r, h1, cell, q1, q2, q3, q4⟩ := hP.2 a _ ha
          have hr : r = (C, T, N) := Option.some.inj (h1.symm.trans hc)
          subst hr
          obtain ⟨hSl, hfc, kC, hkC, hkind⟩ := hK.1 _ _ hc
          obtain ⟨cf, kf, fi, f, hi, hsl⟩ := hSl _ hk
          have hlay := hts _ (hin _ (u_in_lay hk))
          unfold u_lay at hlay
          have hst := (u_facts hfc hkC (u_lays hts hin hk) hi).1
          rw [if_neg (by rw [hfin]; decide)] at hlay
          have h6 := u_store hfc hkC hkind hlay hi (hty _ hk) hcv.1 hcv.2
          refine W.putK hx hb (f := f) ⟨hown, hlink, ⟨_, _, _, hi⟩, hst⟩ (by rw [q2]; exact h6) q1 q3 (by rw [hsl]; exact k2_hasslot (q4 _ hk)) rfl rfl hd fun H' e1 e2 e3 => ?_
          rw [hsl] at e1 ⊢
          refine ok H' _ la hl (hP.set ha e2 ⟨_, hc, t_OB.to (V := updV (vp_V (fs.map (hv_cv b sa))) (n % 100) (hv_cv b sa v)) ⟨_, e1, q2, q3, t_set q4 hap hk _⟩ (fun j _ => ?_)⟩ e3) (hS.put e2 e3 (Nat.le_add_right b a))
          rw [vp_updV_set (by rw [List.length_map]; exact hlt), List.map_set]
      · cases hr
    · cases hr
  · cases hr
theorem hv_t_putfieldF (hx : p.tables.exec = Jvm.exec) (hb : c.code = cc) {own C : String} {T : u_T} {N idx n : Nat} {Ts : List Jvm.Cond} (hts : ∀ w ∈ Ts, w.before args s = true) (hin : ∀ w ∈ u_ws C T N, w ∈ Ts) (hown : s.vm.findClass own = some m.cls) (hK : va_K D cl (hv_tys cA) s) (hc : cl[n / 100]? = some (C, T, N)) (hk : n % 100 < N) (hty : ∀ k, k < N → parseFieldDescriptor (T k).2.2.1 = some (ft (n / 100) k)) (hnm : ∀ a, a < N → ∀ b, b < N → a ≠ b → (T a).2.1 ≠ (T b).2.1) (hlink : (Jvm.Cond.fieldLink own idx (T (n % 100)).1 (T (n % 100)).2.1 (T (n % 100)).2.2.1).before args s = true) (hfin : (T (n % 100)).2.2.2 = true) (hin2 : meth.name = "<init>") (hdecl : (T (n % 100)).1 = own) (hd : decode cc pc = .ok (.putfield idx, 3)) : hv_I (hv_SW p l e R s m args below meth c Q D cl b sa cA nL) Fn pc lb (hv_step cm vk dv ft mc ms rt call (.putfield n)) (pc + 3) := by
  rintro ⟨ls, st, h, nc, ns⟩ r hr ok
  simp only [hv_step] at hr
  split at hr
  · rename_i v a st'
    split at hr
    · rename_i ci fs ha
      split at hr
      · rename_i hci
        obtain ⟨hci, hlt, hfk⟩ := hci
        cases Option.some.inj hr
        subst hci
        intro H locs la hl hP hS
        · have hcv := hv_cv_fok (b := b) (sa := sa) hfk
          have hap := va_apart (own := own) hts hin (ft (n / 100)) hty hnm hK hc
          obtain ⟨r, h1, cell, q1, q2, q3, q4⟩ := hP.2 a _ ha
          have hr : r = (C, T, N) := Option.some.inj (h1.symm.trans hc)
          subst hr
          obtain ⟨hSl, hfc, kC, hkC, hkind⟩ := hK.1 _ _ hc
          obtain ⟨cf, kf, fi, f, hi, hsl⟩ := hSl _ hk
          have hlay := hts _ (hin _ (u_in_lay hk))
          unfold u_lay at hlay
          have hst := (u_facts hfc hkC (u_lays hts hin hk) hi).1
          rw [if_pos hfin] at hlay
          have hcf : m.cls = cf := by
            obtain ⟨_, _, c', _, _, _, -, -, hf', -, -, -, hown2, -⟩ := Cond.laysFinal_spec hlay
            have e1 : c' = cf := by have := hi.symm.trans hf'; simp at this; exact this.1.symm
            rw [hdecl] at hown2
            rw [← e1]; exact Option.some.inj (hown.symm.trans hown2)
          have h6 := u_fits hfc hkC hkind (Or.inr hlay) hi (hty _ hk) hcv.1 hcv.2
          refine W.putFinK hx hb hown hlink hi hst hcf hin2 (by rw [q2]; exact h6) q1 q3 (by rw [hsl]; exact k2_hasslot (q4 _ hk)) rfl rfl hd fun H' e1 e2 e3 => ?_
          rw [hsl] at e1 ⊢
          refine ok H' _ la hl (hP.set ha e2 ⟨_, hc, t_OB.to (V := updV (vp_V (fs.map (hv_cv b sa))) (n % 100) (hv_cv b sa v)) ⟨_, e1, q2, q3, t_set q4 hap hk _⟩ (fun j _ => ?_)⟩ e3) (hS.put e2 e3 (Nat.le_add_right b a))
          rw [vp_updV_set (by rw [List.length_map]; exact hlt), List.map_set]
      · cases hr
    · cases hr
  · cases hr
theorem hv_t_putfieldN (hx : p.tables.exec = Jvm.exec) (hb : c.code = cc) {own C : String} {T : u_T} {N idx n : Nat} {Ts : List Jvm.Cond} (hts : ∀ w ∈ Ts, w.before args s = true) (hin : ∀ w ∈ u_ws C T N, w ∈ Ts) (hown : s.vm.findClass own = some m.cls) (hK : va_K D cl (hv_tys cA) s) (hc : cl[n / 100]? = some (C, T, N)) (hk : n % 100 < N) (hty : ∀ k, k < N → parseFieldDescriptor (T k).2.2.1 = some (ft (n / 100) k)) (hnm : ∀ a, a < N → ∀ b, b < N → a ≠ b → (T a).2.1 ≠ (T b).2.1) {host : String} (hlink : (Jvm.Cond.fieldLinkNest own idx (T (n % 100)).1 (T (n % 100)).2.1 (T (n % 100)).2.2.1 host).before args s = true) (hfin : (T (n % 100)).2.2.2 = false) (hd : decode cc pc = .ok (.putfield idx, 3)) : hv_I (hv_SW p l e R s m args below meth c Q D cl b sa cA nL) Fn pc lb (hv_step cm vk dv ft mc ms rt call (.putfield n)) (pc + 3) := by
  rintro ⟨ls, st, h, nc, ns⟩ r hr ok
  simp only [hv_step] at hr
  split at hr
  · rename_i v a st'
    split at hr
    · rename_i ci fs ha
      split at hr
      · rename_i hci
        obtain ⟨hci, hlt, hfk⟩ := hci
        cases Option.some.inj hr
        subst hci
        intro H locs la hl hP hS
        · have hcv := hv_cv_fok (b := b) (sa := sa) hfk
          have hap := va_apart (own := own) hts hin (ft (n / 100)) hty hnm hK hc
          obtain ⟨r, h1, cell, q1, q2, q3, q4⟩ := hP.2 a _ ha
          have hr : r = (C, T, N) := Option.some.inj (h1.symm.trans hc)
          subst hr
          obtain ⟨hSl, hfc, kC, hkC, hkind⟩ := hK.1 _ _ hc
          obtain ⟨cf, kf, fi, f, hi, hsl⟩ := hSl _ hk
          have hlay := hts _ (hin _ (u_in_lay hk))
          unfold u_lay at hlay
          have hst := (u_facts hfc hkC (u_lays hts hin hk) hi).1
          rw [if_neg (by rw [hfin]; decide)] at hlay
          have h6 := u_store hfc hkC hkind hlay hi (hty _ hk) hcv.1 hcv.2
          refine va_WputK hx hb (f := f) hown hlink hi hst (by rw [q2]; exact h6) q1 q3 (by rw [hsl]; exact k2_hasslot (q4 _ hk)) rfl rfl hd fun H' e1 e2 e3 => ?_
          rw [hsl] at e1 ⊢
          refine ok H' _ la hl (hP.set ha e2 ⟨_, hc, t_OB.to (V := updV (vp_V (fs.map (hv_cv b sa))) (n % 100) (hv_cv b sa v)) ⟨_, e1, q2, q3, t_set q4 hap hk _⟩ (fun j _ => ?_)⟩ e3) (hS.put e2 e3 (Nat.le_add_right b a))
          rw [vp_updV_set (by rw [List.length_map]; exact hlt), List.map_set]
      · cases hr
    · cases hr
  · cases hr
theorem hv_t_iaload (hx : p.tables.exec = Jvm.exec) (hb : c.code = cc) (hK : va_K D cl (hv_tys cA) s) (hd : decode cc pc = .ok (.iaload, 1)) : hv_I (hv_SW p l e R s m args below meth c Q D cl b sa cA nL) Fn pc lb (hv_step cm vk dv ft mc ms rt call .iaload) (pc + 1) := by
  rintro ⟨ls, st, h, nc, ns⟩ r hr ok
  simp only [hv_step] at hr
  split at hr
  · rename_i i a st'
    split at hr
    · rename_i n f ha
      split at hr
      · cases hr
      · rename_i hin
        cases Option.some.inj hr
        intro H locs la hl hP hS
        exact va_iald hx hb hK (hP.one ha) 0 0 rfl rfl hin hd (ok H locs la hl hP hS)
    · cases hr
  · cases hr
theorem hv_t_baload (hx : p.tables.exec = Jvm.exec) (hb : c.code = cc) (hK : va_K D cl (hv_tys cA) s) (hd : decode cc pc = .ok (.baload, 1)) : hv_I (hv_SW p l e R s m args below meth c Q D cl b sa cA nL) Fn pc lb (hv_step cm vk dv ft mc ms rt call .baload) (pc + 1) := by
  rintro ⟨ls, st, h, nc, ns⟩ r hr ok
  simp only [hv_step] at hr
  split at hr
  · rename_i i a st'
    split at hr
    · rename_i n f ha
      split at hr
      · cases hr
      · rename_i hin
        cases Option.some.inj hr
        intro H locs la hl hP hS
        exact va_bald hx hb hK (hP.one ha) 0 1 rfl rfl hin hd (ok H locs la hl hP hS)
    · rename_i n f ha
      split at hr
      · cases hr
      · rename_i hin
        cases Option.some.inj hr
        intro H locs la hl hP hS
        exact va_zald hx hb hK (hP.one ha) 0 2 rfl rfl hin hd (ok H locs la hl hP hS)
    · cases hr
  · cases hr
theorem hv_t_laload (hx : p.tables.exec = Jvm.exec) (hb : c.code = cc) (hK : va_K D cl (hv_tys cA) s) (hd : decode cc pc = .ok (.laload, 1)) : hv_I (hv_SW p l e R s m args below meth c Q D cl b sa cA nL) Fn pc lb (hv_step cm vk dv ft mc ms rt call .laload) (pc + 1) := by
  rintro ⟨ls, st, h, nc, ns⟩ r hr ok
  simp only [hv_step] at hr
  split at hr
  · rename_i i a st'
    split at hr
    · rename_i n f ha
      split at hr
      · cases hr
      · rename_i hin
        cases Option.some.inj hr
        intro H locs la hl hP hS
        exact va_lald hx hb hK (hP.one ha) 0 3 rfl rfl hin hd (ok H locs la hl hP hS)
    · cases hr
  · cases hr
theorem hv_t_aaload (hx : p.tables.exec = Jvm.exec) (hb : c.code = cc) (hK : va_K D cl (hv_tys cA) s) (hd : decode cc pc = .ok (.aaload, 1)) : hv_I (hv_SW p l e R s m args below meth c Q D cl b sa cA nL) Fn pc lb (hv_step cm vk dv ft mc ms rt call .aaload) (pc + 1) := by
  rintro ⟨ls, st, h, nc, ns⟩ r hr ok
  simp only [hv_step] at hr
  split at hr
  · rename_i i a st'
    split at hr
    · rename_i t n f ha
      split at hr
      · rename_i hin
        cases Option.some.inj hr
        intro H locs la hl hP hS
        have hv : hv_cv b sa (va_rf (f i.toNatClampNeg)) = va_rf ((f i.toNatClampNeg).map (b + ·)) := by
          cases f i.toNatClampNeg <;> rfl
        have hk := ok H locs la hl hP hS
        rw [List.map_cons, hv] at hk
        rcases hin with ⟨rfl | rfl, hin⟩
        · exact va_aldq (f := fun j => (f j).map (b + ·)) hx hb hK (hP.one ha) 0 4 rfl rfl hin hd hk
        · exact va_aldq (f := fun j => (f j).map (b + ·)) hx hb hK (hP.one ha) 0 5 rfl rfl hin hd hk
      · cases hr
    · cases hr
  · cases hr
theorem hv_t_arraylength (hx : p.tables.exec = Jvm.exec) (hb : c.code = cc) (hK : va_K D cl (hv_tys cA) s) (hd : decode cc pc = .ok (.arraylength, 1)) : hv_I (hv_SW p l e R s m args below meth c Q D cl b sa cA nL) Fn pc lb (hv_step cm vk dv ft mc ms rt call .arraylength) (pc + 1) := by
  rintro ⟨ls, st, h, nc, ns⟩ r hr ok
  simp only [hv_step] at hr
  split at hr
  · rename_i a st'
    split at hr
    · rename_i t n y ha
      split at hr
      · rename_i ht
        cases Option.some.inj hr
        intro H locs la hl hP hS
        have hlen : (hv_ca b (n, y)).1 = n := by unfold hv_ca; split <;> simp_all
        have htt : ∃ ty, (hv_tys cA)[t]? = some (cA t, ty) := by
          match t, ht with
          | 0, _ => exact ⟨_, rfl⟩
          | 1, _ => exact ⟨_, rfl⟩
          | 2, _ => exact ⟨_, rfl⟩
          | 3, _ => exact ⟨_, rfl⟩
          | 4, _ => exact ⟨_, rfl⟩
          | 5, _ => exact ⟨_, rfl⟩
        obtain ⟨ty, hty⟩ := htt
        exact va_alen hx hb hK (hP.one ha) 0 t rfl hty (by rw [hlen]) hd (ok H locs la hl hP hS)
      · cases hr
    · cases hr
  · cases hr
theorem hv_t_iastore (hx : p.tables.exec = Jvm.exec) (hb : c.code = cc) (hK : va_K D cl (hv_tys cA) s) (hd : decode cc pc = .ok (.iastore, 1)) : hv_I (hv_SW p l e R s m args below meth c Q D cl b sa cA nL) Fn pc lb (hv_step cm vk dv ft mc ms rt call .iastore) (pc + 1) := by
  rintro ⟨ls, st, h, nc, ns⟩ r hr ok
  simp only [hv_step] at hr
  split at hr
  · rename_i x i a st'
    split at hr
    · rename_i n f ha
      split at hr
      · cases hr
      · rename_i hin
        cases Option.some.inj hr
        intro H locs la hl hP hS
        obtain ⟨hcell, harr⟩ : H[b + a]? = some (vp_cell (cA 0) (n, .inl f)) ∧ s.isArrayOf (vp_cell (cA 0) (n, .inl f)) .int := ⟨hP.2 a _ ha, (hK.2 0 _ rfl).1 n (fun j => .int (f j))⟩
        refine W.iast hx hb hcell harr (fun q => by cases q) (by show ¬ (i < 0 ∨ (arrV _ _ _).slots.size ≤ _); rw [arrV_size]; exact hin) rfl rfl hd fun H1 e1 z oq => ?_
        refine ok H1 _ la hl (hP.set ha z ?_ oq) (hS.put z oq (Nat.le_add_right b a))
        show H1[b + a]? = some (vp_cell _ _)
        rw [e1]
        show some ((arrV (cA 0) n (fun j => .int (f j))).setSlot _ _) = some (arrV (cA 0) n (fun j => .int (upd f i.toNatClampNeg x j)))
        rw [arrV_store]
        congr 2
        funext q
        by_cases hq : q = i.toNatClampNeg
        · subst hq
          simp [updV, upd]
        · simp [updV, upd, hq]
    · cases hr
  · cases hr
theorem hv_t_bastore (hx : p.tables.exec = Jvm.exec) (hb : c.code = cc) (hK : va_K D cl (hv_tys cA) s) (hd : decode cc pc = .ok (.bastore, 1)) : hv_I (hv_SW p l e R s m args below meth c Q D cl b sa cA nL) Fn pc lb (hv_step cm vk dv ft mc ms rt call .bastore) (pc + 1) := by
  rintro ⟨ls, st, h, nc, ns⟩ r hr ok
  simp only [hv_step] at hr
  split at hr
  · rename_i x i a st'
    split at hr
    · rename_i n f ha
      split at hr
      · cases hr
      · rename_i hin
        cases Option.some.inj hr
        intro H locs la hl hP hS
        obtain ⟨hcell, harr⟩ : H[b + a]? = some (vp_cell (cA 1) (n, .inl f)) ∧ s.isArrayOf (vp_cell (cA 1) (n, .inl f)) .byte := ⟨hP.2 a _ ha, (hK.2 1 _ rfl).1 n (fun j => .int (f j))⟩
        refine W.bast hx hb hcell harr (fun q => by cases q) (by show ¬ (i < 0 ∨ (arrV _ _ _).slots.size ≤ _); rw [arrV_size]; exact hin) rfl rfl hd fun H1 e1 z oq => ?_
        refine ok H1 _ la hl (hP.set ha z ?_ oq) (hS.put z oq (Nat.le_add_right b a))
        show H1[b + a]? = some (vp_cell _ _)
        rw [e1]
        show some ((arrV (cA 1) n (fun j => .int (f j))).setSlot _ _) = some (arrV (cA 1) n (fun j => .int (upd f i.toNatClampNeg x.toInt8.toInt32 j)))
        rw [arrV_store]
        congr 2
        funext q
        by_cases hq : q = i.toNatClampNeg
        · subst hq
          simp [updV, upd, narrow]
        · simp [updV, upd, hq]
    · rename_i n f ha
      split at hr
      · cases hr
      · rename_i hin
        cases Option.some.inj hr
        intro H locs la hl hP hS
        obtain ⟨hcell, harr⟩ : H[b + a]? = some (vp_cell (cA 2) (n, .inl f)) ∧ s.isArrayOf (vp_cell (cA 2) (n, .inl f)) .boolean := ⟨hP.2 a _ ha, (hK.2 2 _ rfl).1 n (fun j => .int (f j))⟩
        refine W.zast hx hb hcell harr (fun q => by cases q) (by show ¬ (i < 0 ∨ (arrV _ _ _).slots.size ≤ _); rw [arrV_size]; exact hin) rfl rfl hd fun H1 e1 z oq => ?_
        refine ok H1 _ la hl (hP.set ha z ?_ oq) (hS.put z oq (Nat.le_add_right b a))
        show H1[b + a]? = some (vp_cell _ _)
        rw [e1]
        show some ((arrV (cA 2) n (fun j => .int (f j))).setSlot _ _) = some (arrV (cA 2) n (fun j => .int (upd f i.toNatClampNeg (x &&& 1) j)))
        rw [arrV_store]
        congr 2
        funext q
        by_cases hq : q = i.toNatClampNeg
        · subst hq
          simp [updV, upd, narrow]
        · simp [updV, upd, hq]
    · cases hr
  · cases hr
theorem hv_t_lastore (hx : p.tables.exec = Jvm.exec) (hb : c.code = cc) (hK : va_K D cl (hv_tys cA) s) (hd : decode cc pc = .ok (.lastore, 1)) : hv_I (hv_SW p l e R s m args below meth c Q D cl b sa cA nL) Fn pc lb (hv_step cm vk dv ft mc ms rt call .lastore) (pc + 1) := by
  rintro ⟨ls, st, h, nc, ns⟩ r hr ok
  simp only [hv_step] at hr
  split at hr
  · rename_i x i a st'
    split at hr
    · rename_i n f ha
      split at hr
      · cases hr
      · rename_i hin
        cases Option.some.inj hr
        intro H locs la hl hP hS
        obtain ⟨hcell, harr⟩ : H[b + a]? = some (vp_cell (cA 3) (n, .inr (.inl f))) ∧ s.isArrayOf (vp_cell (cA 3) (n, .inr (.inl f))) .long := ⟨hP.2 a _ ha, (hK.2 3 _ rfl).1 n (fun j => .long (f j))⟩
        refine W.last hx hb hcell harr (fun q => by cases q) (by show ¬ (i < 0 ∨ (arrV _ _ _).slots.size ≤ _); rw [arrV_size]; exact hin) rfl rfl hd fun H1 e1 z oq => ?_
        refine ok H1 _ la hl (hP.set ha z ?_ oq) (hS.put z oq (Nat.le_add_right b a))
        show H1[b + a]? = some (vp_cell _ _)
        rw [e1]
        show some ((arrV (cA 3) n (fun j => .long (f j))).setSlot _ _) = some (arrV (cA 3) n (fun j => .long (vp_updL f i.toNatClampNeg x j)))
        rw [arrV_store]
        congr 2
        funext q
        by_cases hq : q = i.toNatClampNeg
        · subst hq
          simp [updV, vp_updL]
        · simp [updV, vp_updL, hq]
    · cases hr
  · cases hr
end HVU
