/-! One lemma an instruction: what the abstract machine does, the machine does. -/
abbrev hv_SW (p : Program) (l : Launch) (e : Env) (R : Room) (s : State) (m : MethodId) (args : Array Value) (below : List Frame) (meth : Method) (c : Code) (Q : State → Prop) (D : va_G) (cl : List vw_C) (b : Nat) (sa : Nat → Nat) (cA : Nat → ClassId) (nL : Nat) : Nat → hv_S → Prop :=
  hv_Sf D cl b sa cA nL m s.heap (fun H locs nc ns g => W p l e R s m args below meth c H locs nc ns Q g)
section HVT
variable {p : Program} {l : Launch} {e : Env} {R : Room} {s : State} {m : MethodId} {args : Array Value} {below : List Frame} {meth : Method} {c : Code} {Q : State → Prop} {cc : ByteArray} {nL : Nat} {D : va_G} {cl : List vw_C} {b : Nat} {sa : Nat → Nat} {cA : Nat → ClassId} {Fn : hv_R → Prop} {pc : Nat} {lb : List Nat}
  {cm : Nat → Nat × Nat} {vk : Nat → Option Nat} {dv : Nat → List Value} {ft : Nat → Nat → FieldType} {mc ms : Nat} {rt : Option FieldType} {call : hv_F}
theorem hv_t_iconst {n : Int} (hx : p.tables.exec = Jvm.exec) (hb : c.code = cc) (hd : decode cc pc = .ok (.iconst n, 1))  : hv_I (hv_SW p l e R s m args below meth c Q D cl b sa cA nL) Fn pc lb (hv_step cm vk dv ft mc ms rt call (.iconst n)) (pc + 1) := by
  rintro ⟨ls, st, h, nc, ns⟩ r hr ok
  simp only [hv_step] at hr
  cases Option.some.inj hr
  intro H locs la hl hP hS
  exact lv_iconst hx hb (hd) rfl (ok H locs la hl hP hS)
theorem hv_t_bipush (hx : p.tables.exec = Jvm.exec) (hb : c.code = cc) {n k : Int} (hd : decode cc pc = .ok (.bipush k, 2)) (hv : (Int8.ofInt k).toInt32 = Int32.ofInt n) : hv_I (hv_SW p l e R s m args below meth c Q D cl b sa cA nL) Fn pc lb (hv_step cm vk dv ft mc ms rt call (.iconst n)) (pc + 2) := by
  rintro ⟨ls, st, h, nc, ns⟩ r hr ok
  simp only [hv_step] at hr
  cases Option.some.inj hr
  intro H locs la hl hP hS
  exact lv_bipush hx hb hd hv (ok H locs la hl hP hS)
theorem hv_t_sipush (hx : p.tables.exec = Jvm.exec) (hb : c.code = cc) {n k : Int} (hd : decode cc pc = .ok (.sipush k, 3)) (hv : (Int16.ofInt k).toInt32 = Int32.ofInt n) : hv_I (hv_SW p l e R s m args below meth c Q D cl b sa cA nL) Fn pc lb (hv_step cm vk dv ft mc ms rt call (.iconst n)) (pc + 3) := by
  rintro ⟨ls, st, h, nc, ns⟩ r hr ok
  simp only [hv_step] at hr
  cases Option.some.inj hr
  intro H locs la hl hP hS
  exact lv_sipush hx hb hd hv (ok H locs la hl hP hS)
theorem hv_t_ldci (hx : p.tables.exec = Jvm.exec) (hb : c.code = cc) {n : Int} {own : String} {index : Nat} (hown : s.vm.findClass own = some m.cls) (hk : (Jvm.Cond.constant own index (Int32.ofInt n)).before args s = true) (hd : decode cc pc = .ok (.ldc index, 2)) : hv_I (hv_SW p l e R s m args below meth c Q D cl b sa cA nL) Fn pc lb (hv_step cm vk dv ft mc ms rt call (.iconst n)) (pc + 2) := by
  rintro ⟨ls, st, h, nc, ns⟩ r hr ok
  simp only [hv_step] at hr
  cases Option.some.inj hr
  intro H locs la hl hP hS
  exact lv_ldc hx hb hown hk hd (ok H locs la hl hP hS)
theorem hv_t_ldciw (hx : p.tables.exec = Jvm.exec) (hb : c.code = cc) {n : Int} {own : String} {index : Nat} (hown : s.vm.findClass own = some m.cls) (hk : (Jvm.Cond.constant own index (Int32.ofInt n)).before args s = true) (hd : decode cc pc = .ok (.ldc_w index, 3)) : hv_I (hv_SW p l e R s m args below meth c Q D cl b sa cA nL) Fn pc lb (hv_step cm vk dv ft mc ms rt call (.iconst n)) (pc + 3) := by
  rintro ⟨ls, st, h, nc, ns⟩ r hr ok
  simp only [hv_step] at hr
  cases Option.some.inj hr
  intro H locs la hl hP hS
  exact lv_ldcw hx hb hown hk hd (ok H locs la hl hP hS)
theorem hv_t_ldc2 (hx : p.tables.exec = Jvm.exec) (hb : c.code = cc) {n : Int} {own : String} {index : Nat} (hown : s.vm.findClass own = some m.cls) (hk : (Jvm.Cond.constantLong own index (Int64.ofInt n)).before args s = true) (hd : decode cc pc = .ok (.ldc2_w index, 3)) : hv_I (hv_SW p l e R s m args below meth c Q D cl b sa cA nL) Fn pc lb (hv_step cm vk dv ft mc ms rt call (.bipush n)) (pc + 3) := by
  rintro ⟨ls, st, h, nc, ns⟩ r hr ok
  simp only [hv_step] at hr
  cases Option.some.inj hr
  intro H locs la hl hP hS
  exact lv_ldc2 hx hb hown hk hd (ok H locs la hl hP hS)
theorem hv_t_lconst (hx : p.tables.exec = Jvm.exec) (hb : c.code = cc) {n : Int} {k : Fin 2} (hd : decode cc pc = .ok (.lconst k, 1)) (hv : Int64.ofNat (k : Nat) = Int64.ofInt n) : hv_I (hv_SW p l e R s m args below meth c Q D cl b sa cA nL) Fn pc lb (hv_step cm vk dv ft mc ms rt call (.bipush n)) (pc + 1) := by
  rintro ⟨ls, st, h, nc, ns⟩ r hr ok
  simp only [hv_step] at hr
  cases Option.some.inj hr
  intro H locs la hl hP hS
  exact lv_lconst hx hb hd hv (ok H locs la hl hP hS)
theorem hv_t_ldcs (hx : p.tables.exec = Jvm.exec) (hb : c.code = cc) {k : Nat} {own tx : String} {index : Nat} (hown : s.vm.findClass own = some m.cls) (hk : vk_R own index tx (sa k) s) (hd : decode cc pc = .ok (.ldc index, 2)) : hv_I (hv_SW p l e R s m args below meth c Q D cl b sa cA nL) Fn pc lb (hv_step cm vk dv ft mc ms rt call (.ldc k)) (pc + 2) := by
  rintro ⟨ls, st, h, nc, ns⟩ r hr ok
  simp only [hv_step] at hr
  cases Option.some.inj hr
  intro H locs la hl hP hS
  exact va_ldcS hx hb hown hk hd (ok H locs la hl hP hS)
theorem hv_t_aconst_null (hx : p.tables.exec = Jvm.exec) (hb : c.code = cc) (hd : decode cc pc = .ok (.aconst_null, 1)) : hv_I (hv_SW p l e R s m args below meth c Q D cl b sa cA nL) Fn pc lb (hv_step cm vk dv ft mc ms rt call .aconst_null) (pc + 1) := by
  rintro ⟨ls, st, h, nc, ns⟩ r hr ok
  simp only [hv_step] at hr
  cases Option.some.inj hr
  intro H locs la hl hP hS
  exact lv_null hx hb (hd) (ok H locs la hl hP hS)
theorem hv_t_iload (hx : p.tables.exec = Jvm.exec) (hb : c.code = cc) {i : Nat} (hd : decode cc pc = .ok (.iload i, 2)) : hv_I (hv_SW p l e R s m args below meth c Q D cl b sa cA nL) Fn pc lb (hv_step cm vk dv ft mc ms rt call (.iload i)) (pc + 2) := by
  rintro ⟨ls, st, h, nc, ns⟩ r hr ok
  simp only [hv_step] at hr
  split at hr
  · rename_i x hi
    cases Option.some.inj hr
    intro H locs la hl hP hS
    exact lv_iload hx hb hd (hl.2.2.2 i _ hi) (ok H locs la hl hP hS)
  · cases hr
theorem hv_t_iload_n (hx : p.tables.exec = Jvm.exec) (hb : c.code = cc) {i : Nat} {k : Fin 4} (hd : decode cc pc = .ok (.iload_n k, 1)) (hk : (k : Nat) = i) : hv_I (hv_SW p l e R s m args below meth c Q D cl b sa cA nL) Fn pc lb (hv_step cm vk dv ft mc ms rt call (.iload i)) (pc + 1) := by
  rintro ⟨ls, st, h, nc, ns⟩ r hr ok
  simp only [hv_step] at hr
  split at hr
  · rename_i x hi
    cases Option.some.inj hr
    intro H locs la hl hP hS
    exact lv_iload_n hx hb hd hk (hl.2.2.2 i _ hi) (ok H locs la hl hP hS)
  · cases hr
theorem hv_t_lload (hx : p.tables.exec = Jvm.exec) (hb : c.code = cc) {i : Nat} (hd : decode cc pc = .ok (.lload i, 2)) : hv_I (hv_SW p l e R s m args below meth c Q D cl b sa cA nL) Fn pc lb (hv_step cm vk dv ft mc ms rt call (.lload i)) (pc + 2) := by
  rintro ⟨ls, st, h, nc, ns⟩ r hr ok
  simp only [hv_step] at hr
  split at hr
  · rename_i x hi
    cases Option.some.inj hr
    intro H locs la hl hP hS
    exact lv_lload hx hb hd (hl.2.2.2 i _ hi) (ok H locs la hl hP hS)
  · cases hr
theorem hv_t_lload_n (hx : p.tables.exec = Jvm.exec) (hb : c.code = cc) {i : Nat} {k : Fin 4} (hd : decode cc pc = .ok (.lload_n k, 1)) (hk : (k : Nat) = i) : hv_I (hv_SW p l e R s m args below meth c Q D cl b sa cA nL) Fn pc lb (hv_step cm vk dv ft mc ms rt call (.lload i)) (pc + 1) := by
  rintro ⟨ls, st, h, nc, ns⟩ r hr ok
  simp only [hv_step] at hr
  split at hr
  · rename_i x hi
    cases Option.some.inj hr
    intro H locs la hl hP hS
    exact lv_lload_n hx hb hd hk (hl.2.2.2 i _ hi) (ok H locs la hl hP hS)
  · cases hr
theorem hv_t_aload (hx : p.tables.exec = Jvm.exec) (hb : c.code = cc) {i : Nat} (hd : decode cc pc = .ok (.aload i, 2)) : hv_I (hv_SW p l e R s m args below meth c Q D cl b sa cA nL) Fn pc lb (hv_step cm vk dv ft mc ms rt call (.aload i)) (pc + 2) := by
  rintro ⟨ls, st, h, nc, ns⟩ r hr ok
  simp only [hv_step] at hr
  split at hr
  · rename_i x hi
    cases Option.some.inj hr
    intro H locs la hl hP hS
    exact lv_aload hx hb hd (hl.2.2.2 i _ hi) (ok H locs la hl hP hS)
  · rename_i x hi
    cases Option.some.inj hr
    intro H locs la hl hP hS
    exact lv_aload hx hb hd (hl.2.2.2 i _ hi) (ok H locs la hl hP hS)
  · rename_i hi
    cases Option.some.inj hr
    intro H locs la hl hP hS
    exact lv_aloadN hx hb hd (hl.2.2.2 i _ hi) (ok H locs la hl hP hS)
  · cases hr
theorem hv_t_aload_n (hx : p.tables.exec = Jvm.exec) (hb : c.code = cc) {i : Nat} {k : Fin 4} (hd : decode cc pc = .ok (.aload_n k, 1)) (hk : (k : Nat) = i) : hv_I (hv_SW p l e R s m args below meth c Q D cl b sa cA nL) Fn pc lb (hv_step cm vk dv ft mc ms rt call (.aload i)) (pc + 1) := by
  rintro ⟨ls, st, h, nc, ns⟩ r hr ok
  simp only [hv_step] at hr
  split at hr
  · rename_i x hi
    cases Option.some.inj hr
    intro H locs la hl hP hS
    exact lv_aload_n hx hb hd hk (hl.2.2.2 i _ hi) (ok H locs la hl hP hS)
  · rename_i x hi
    cases Option.some.inj hr
    intro H locs la hl hP hS
    exact lv_aload_n hx hb hd hk (hl.2.2.2 i _ hi) (ok H locs la hl hP hS)
  · rename_i hi
    cases Option.some.inj hr
    intro H locs la hl hP hS
    exact lv_aload_nN hx hb hd hk (hl.2.2.2 i _ hi) (ok H locs la hl hP hS)
  · cases hr
theorem hv_t_istore (hx : p.tables.exec = Jvm.exec) (hb : c.code = cc) {i : Nat} (hd : decode cc pc = .ok (.istore i, 2)) : hv_I (hv_SW p l e R s m args below meth c Q D cl b sa cA nL) Fn pc lb (hv_step cm vk dv ft mc ms rt call (.istore i)) (pc + 2) := by
  rintro ⟨ls, st, h, nc, ns⟩ r hr ok
  simp only [hv_step] at hr
  split at hr
  · split at hr
    · rename_i hi
      cases Option.some.inj hr
      intro H locs la hl hP hS
      exact lv_istore hx hb hd hl.has (by rw [← hl.1]; exact hi) rfl (fun la' h' => ok H locs la' (hl.st1 hi h') hP hS)
    · cases hr
  · cases hr
theorem hv_t_lstore (hx : p.tables.exec = Jvm.exec) (hb : c.code = cc) {i : Nat} (hd : decode cc pc = .ok (.lstore i, 2)) : hv_I (hv_SW p l e R s m args below meth c Q D cl b sa cA nL) Fn pc lb (hv_step cm vk dv ft mc ms rt call (.lstore i)) (pc + 2) := by
  rintro ⟨ls, st, h, nc, ns⟩ r hr ok
  simp only [hv_step] at hr
  split at hr
  · split at hr
    · rename_i hi
      cases Option.some.inj hr
      intro H locs la hl hP hS
      exact lv_lstore hx hb hd hl.has (by rw [← hl.1]; exact hi) rfl (fun la' h' => ok H locs la' (hl.st2 hi h') hP hS)
    · cases hr
  · cases hr
theorem hv_t_astore (hx : p.tables.exec = Jvm.exec) (hb : c.code = cc) {i : Nat} (hd : decode cc pc = .ok (.astore i, 2)) : hv_I (hv_SW p l e R s m args below meth c Q D cl b sa cA nL) Fn pc lb (hv_step cm vk dv ft mc ms rt call (.astore i)) (pc + 2) := by
  rintro ⟨ls, st, h, nc, ns⟩ r hr ok
  simp only [hv_step] at hr
  split at hr
  · split at hr
    · rename_i hi
      cases Option.some.inj hr
      intro H locs la hl hP hS
      exact lv_astore hx hb hd hl.has (by rw [← hl.1]; exact hi) rfl (fun la' h' => ok H locs la' (hl.st1 hi h') hP hS)
    · cases hr
  · split at hr
    · rename_i hi
      cases Option.some.inj hr
      intro H locs la hl hP hS
      exact lv_astoreN hx hb hd hl.has (by rw [← hl.1]; exact hi) rfl (fun la' h' => ok H locs la' (hl.st1 hi h') hP hS)
    · cases hr
  · cases hr
theorem hv_t_istore_n (hx : p.tables.exec = Jvm.exec) (hb : c.code = cc) {i : Nat} {k : Fin 4} (hd : decode cc pc = .ok (.istore_n k, 1)) (hk : (k : Nat) = i) : hv_I (hv_SW p l e R s m args below meth c Q D cl b sa cA nL) Fn pc lb (hv_step cm vk dv ft mc ms rt call (.istore i)) (pc + 1) := by
  rintro ⟨ls, st, h, nc, ns⟩ r hr ok
  simp only [hv_step] at hr
  split at hr
  · split at hr
    · rename_i hi
      cases Option.some.inj hr
      intro H locs la hl hP hS
      exact lv_istore_n hx hb hd hk hl.has (by rw [← hl.1]; exact hi) rfl (fun la' h' => ok H locs la' (hl.st1 hi h') hP hS)
    · cases hr
  · cases hr
theorem hv_t_lstore_n (hx : p.tables.exec = Jvm.exec) (hb : c.code = cc) {i : Nat} {k : Fin 4} (hd : decode cc pc = .ok (.lstore_n k, 1)) (hk : (k : Nat) = i) : hv_I (hv_SW p l e R s m args below meth c Q D cl b sa cA nL) Fn pc lb (hv_step cm vk dv ft mc ms rt call (.lstore i)) (pc + 1) := by
  rintro ⟨ls, st, h, nc, ns⟩ r hr ok
  simp only [hv_step] at hr
  split at hr
  · split at hr
    · rename_i hi
      cases Option.some.inj hr
      intro H locs la hl hP hS
      exact lv_lstore_n hx hb hd hk hl.has (by rw [← hl.1]; exact hi) rfl (fun la' h' => ok H locs la' (hl.st2 hi h') hP hS)
    · cases hr
  · cases hr
theorem hv_t_astore_n (hx : p.tables.exec = Jvm.exec) (hb : c.code = cc) {i : Nat} {k : Fin 4} (hd : decode cc pc = .ok (.astore_n k, 1)) (hk : (k : Nat) = i) : hv_I (hv_SW p l e R s m args below meth c Q D cl b sa cA nL) Fn pc lb (hv_step cm vk dv ft mc ms rt call (.astore i)) (pc + 1) := by
  rintro ⟨ls, st, h, nc, ns⟩ r hr ok
  simp only [hv_step] at hr
  split at hr
  · split at hr
    · rename_i hi
      cases Option.some.inj hr
      intro H locs la hl hP hS
      exact lv_astore_n hx hb hd hk hl.has (by rw [← hl.1]; exact hi) rfl (fun la' h' => ok H locs la' (hl.st1 hi h') hP hS)
    · cases hr
  · split at hr
    · rename_i hi
      cases Option.some.inj hr
      intro H locs la hl hP hS
      exact lv_astore_nN hx hb hd hk hl.has (by rw [← hl.1]; exact hi) rfl (fun la' h' => ok H locs la' (hl.st1 hi h') hP hS)
    · cases hr
  · cases hr
theorem hv_t_iinc (hx : p.tables.exec = Jvm.exec) (hb : c.code = cc) {i : Nat} {n : Int} (hd : decode cc pc = .ok (.iinc i n, 3)) : hv_I (hv_SW p l e R s m args below meth c Q D cl b sa cA nL) Fn pc lb (hv_step cm vk dv ft mc ms rt call (.iinc i n)) (pc + 3) := by
  rintro ⟨ls, st, h, nc, ns⟩ r hr ok
  simp only [hv_step] at hr
  split at hr
  · rename_i x hi
    cases Option.some.inj hr
    intro H locs la hl hP hS
    have hlt : i < ls.length := (List.getElem?_eq_some_iff.mp hi).1
    obtain ⟨k, hk⟩ := List.getElem?_of_mem (hv_kn_mem (b := b) (sa := sa) (ls := ls) (q := (i, .int x)) |>.mpr ⟨.int x, hi, rfl⟩)
    exact lv_iinc hx hb hd hl.has hk rfl (by rw [← hl.1]; exact hlt) rfl (fun la' h' => ok H locs la' (hl.st1 (v := .int (x + Int32.ofInt n)) hlt h') hP hS)
  · cases hr
theorem hv_t_iadd (hx : p.tables.exec = Jvm.exec) (hb : c.code = cc) (hd : decode cc pc = .ok (.iadd, 1)) : hv_I (hv_SW p l e R s m args below meth c Q D cl b sa cA nL) Fn pc lb (hv_step cm vk dv ft mc ms rt call .iadd) (pc + 1) := by
  rintro ⟨ls, st, h, nc, ns⟩ r hr ok
  simp only [hv_step] at hr
  split at hr
  · cases Option.some.inj hr
    intro H locs la hl hP hS
    exact lv_iadd hx hb (hd) (ok H locs la hl hP hS)
  · cases hr
theorem hv_t_isub (hx : p.tables.exec = Jvm.exec) (hb : c.code = cc) (hd : decode cc pc = .ok (.isub, 1)) : hv_I (hv_SW p l e R s m args below meth c Q D cl b sa cA nL) Fn pc lb (hv_step cm vk dv ft mc ms rt call .isub) (pc + 1) := by
  rintro ⟨ls, st, h, nc, ns⟩ r hr ok
  simp only [hv_step] at hr
  split at hr
  · cases Option.some.inj hr
    intro H locs la hl hP hS
    exact lv_isub hx hb (hd) (ok H locs la hl hP hS)
  · cases hr
theorem hv_t_imul (hx : p.tables.exec = Jvm.exec) (hb : c.code = cc) (hd : decode cc pc = .ok (.imul, 1)) : hv_I (hv_SW p l e R s m args below meth c Q D cl b sa cA nL) Fn pc lb (hv_step cm vk dv ft mc ms rt call .imul) (pc + 1) := by
  rintro ⟨ls, st, h, nc, ns⟩ r hr ok
  simp only [hv_step] at hr
  split at hr
  · cases Option.some.inj hr
    intro H locs la hl hP hS
    exact lv_imul hx hb (hd) (ok H locs la hl hP hS)
  · cases hr
theorem hv_t_iand (hx : p.tables.exec = Jvm.exec) (hb : c.code = cc) (hd : decode cc pc = .ok (.iand, 1)) : hv_I (hv_SW p l e R s m args below meth c Q D cl b sa cA nL) Fn pc lb (hv_step cm vk dv ft mc ms rt call .iand) (pc + 1) := by
  rintro ⟨ls, st, h, nc, ns⟩ r hr ok
  simp only [hv_step] at hr
  split at hr
  · cases Option.some.inj hr
    intro H locs la hl hP hS
    exact lv_iand hx hb (hd) (ok H locs la hl hP hS)
  · cases hr
theorem hv_t_ior (hx : p.tables.exec = Jvm.exec) (hb : c.code = cc) (hd : decode cc pc = .ok (.ior, 1)) : hv_I (hv_SW p l e R s m args below meth c Q D cl b sa cA nL) Fn pc lb (hv_step cm vk dv ft mc ms rt call .ior) (pc + 1) := by
  rintro ⟨ls, st, h, nc, ns⟩ r hr ok
  simp only [hv_step] at hr
  split at hr
  · cases Option.some.inj hr
    intro H locs la hl hP hS
    exact lv_ior hx hb (hd) (ok H locs la hl hP hS)
  · cases hr
theorem hv_t_ishl (hx : p.tables.exec = Jvm.exec) (hb : c.code = cc) (hd : decode cc pc = .ok (.ishl, 1)) : hv_I (hv_SW p l e R s m args below meth c Q D cl b sa cA nL) Fn pc lb (hv_step cm vk dv ft mc ms rt call .ishl) (pc + 1) := by
  rintro ⟨ls, st, h, nc, ns⟩ r hr ok
  simp only [hv_step] at hr
  split at hr
  · cases Option.some.inj hr
    intro H locs la hl hP hS
    exact lv_ishl hx hb (hd) (ok H locs la hl hP hS)
  · cases hr
theorem hv_t_ishr (hx : p.tables.exec = Jvm.exec) (hb : c.code = cc) (hd : decode cc pc = .ok (.ishr, 1)) : hv_I (hv_SW p l e R s m args below meth c Q D cl b sa cA nL) Fn pc lb (hv_step cm vk dv ft mc ms rt call .ishr) (pc + 1) := by
  rintro ⟨ls, st, h, nc, ns⟩ r hr ok
  simp only [hv_step] at hr
  split at hr
  · cases Option.some.inj hr
    intro H locs la hl hP hS
    exact lv_ishr hx hb (hd) (ok H locs la hl hP hS)
  · cases hr
theorem hv_t_ladd (hx : p.tables.exec = Jvm.exec) (hb : c.code = cc) (hd : decode cc pc = .ok (.ladd, 1)) : hv_I (hv_SW p l e R s m args below meth c Q D cl b sa cA nL) Fn pc lb (hv_step cm vk dv ft mc ms rt call .ladd) (pc + 1) := by
  rintro ⟨ls, st, h, nc, ns⟩ r hr ok
  simp only [hv_step] at hr
  split at hr
  · cases Option.some.inj hr
    intro H locs la hl hP hS
    exact lv_ladd hx hb (hd) (ok H locs la hl hP hS)
  · cases hr
theorem hv_t_lsub (hx : p.tables.exec = Jvm.exec) (hb : c.code = cc) (hd : decode cc pc = .ok (.lsub, 1)) : hv_I (hv_SW p l e R s m args below meth c Q D cl b sa cA nL) Fn pc lb (hv_step cm vk dv ft mc ms rt call .lsub) (pc + 1) := by
  rintro ⟨ls, st, h, nc, ns⟩ r hr ok
  simp only [hv_step] at hr
  split at hr
  · cases Option.some.inj hr
    intro H locs la hl hP hS
    exact lv_lsub hx hb (hd) (ok H locs la hl hP hS)
  · cases hr
theorem hv_t_lmul (hx : p.tables.exec = Jvm.exec) (hb : c.code = cc) (hd : decode cc pc = .ok (.lmul, 1)) : hv_I (hv_SW p l e R s m args below meth c Q D cl b sa cA nL) Fn pc lb (hv_step cm vk dv ft mc ms rt call .lmul) (pc + 1) := by
  rintro ⟨ls, st, h, nc, ns⟩ r hr ok
  simp only [hv_step] at hr
  split at hr
  · cases Option.some.inj hr
    intro H locs la hl hP hS
    exact lv_lmul hx hb (hd) (ok H locs la hl hP hS)
  · cases hr
theorem hv_t_ineg (hx : p.tables.exec = Jvm.exec) (hb : c.code = cc) (hd : decode cc pc = .ok (.ineg, 1)) : hv_I (hv_SW p l e R s m args below meth c Q D cl b sa cA nL) Fn pc lb (hv_step cm vk dv ft mc ms rt call .ineg) (pc + 1) := by
  rintro ⟨ls, st, h, nc, ns⟩ r hr ok
  simp only [hv_step] at hr
  split at hr
  · cases Option.some.inj hr
    intro H locs la hl hP hS
    exact lv_ineg hx hb (hd) (ok H locs la hl hP hS)
  · cases hr
theorem hv_t_lcmp (hx : p.tables.exec = Jvm.exec) (hb : c.code = cc) (hd : decode cc pc = .ok (.lcmp, 1)) : hv_I (hv_SW p l e R s m args below meth c Q D cl b sa cA nL) Fn pc lb (hv_step cm vk dv ft mc ms rt call .lcmp) (pc + 1) := by
  rintro ⟨ls, st, h, nc, ns⟩ r hr ok
  simp only [hv_step] at hr
  split at hr
  · cases Option.some.inj hr
    intro H locs la hl hP hS
    exact W.lcmp hx hb (hd) (ok H locs la hl hP hS)
  · cases hr
theorem hv_t_i2l (hx : p.tables.exec = Jvm.exec) (hb : c.code = cc) (hd : decode cc pc = .ok (.i2l, 1)) : hv_I (hv_SW p l e R s m args below meth c Q D cl b sa cA nL) Fn pc lb (hv_step cm vk dv ft mc ms rt call .i2l) (pc + 1) := by
  rintro ⟨ls, st, h, nc, ns⟩ r hr ok
  simp only [hv_step] at hr
  split at hr
  · cases Option.some.inj hr
    intro H locs la hl hP hS
    exact lv_i2l hx hb (hd) rfl (ok H locs la hl hP hS)
  · cases hr
theorem hv_t_l2i (hx : p.tables.exec = Jvm.exec) (hb : c.code = cc) (hd : decode cc pc = .ok (.l2i, 1)) : hv_I (hv_SW p l e R s m args below meth c Q D cl b sa cA nL) Fn pc lb (hv_step cm vk dv ft mc ms rt call .l2i) (pc + 1) := by
  rintro ⟨ls, st, h, nc, ns⟩ r hr ok
  simp only [hv_step] at hr
  split at hr
  · cases Option.some.inj hr
    intro H locs la hl hP hS
    exact lv_l2i hx hb (hd) rfl (ok H locs la hl hP hS)
  · cases hr
theorem hv_t_i2b (hx : p.tables.exec = Jvm.exec) (hb : c.code = cc) (hd : decode cc pc = .ok (.i2b, 1)) : hv_I (hv_SW p l e R s m args below meth c Q D cl b sa cA nL) Fn pc lb (hv_step cm vk dv ft mc ms rt call .i2b) (pc + 1) := by
  rintro ⟨ls, st, h, nc, ns⟩ r hr ok
  simp only [hv_step] at hr
  split at hr
  · cases Option.some.inj hr
    intro H locs la hl hP hS
    exact lv_i2b hx hb (hd) rfl (ok H locs la hl hP hS)
  · cases hr
theorem hv_t_iushr (hx : p.tables.exec = Jvm.exec) (hb : c.code = cc) (hd : decode cc pc = .ok (.iushr, 1)) : hv_I (hv_SW p l e R s m args below meth c Q D cl b sa cA nL) Fn pc lb (hv_step cm vk dv ft mc ms rt call .iushr) (pc + 1) := by
  rintro ⟨ls, st, h, nc, ns⟩ r hr ok
  simp only [hv_step] at hr
  split at hr
  · cases Option.some.inj hr
    intro H locs la hl hP hS
    exact lv_iushr hx hb (hd) rfl (ok H locs la hl hP hS)
  · cases hr
theorem hv_t_idiv (hx : p.tables.exec = Jvm.exec) (hb : c.code = cc) (hd : decode cc pc = .ok (.idiv, 1)) : hv_I (hv_SW p l e R s m args below meth c Q D cl b sa cA nL) Fn pc lb (hv_step cm vk dv ft mc ms rt call .idiv) (pc + 1) := by
  rintro ⟨ls, st, h, nc, ns⟩ r hr ok
  simp only [hv_step] at hr
  split at hr
  · split at hr
    · cases hr
    · rename_i h0
      cases Option.some.inj hr
      intro H locs la hl hP hS
      exact lv_idiv hx hb hd h0 (ok H locs la hl hP hS)
  · cases hr
theorem hv_t_irem (hx : p.tables.exec = Jvm.exec) (hb : c.code = cc) (hd : decode cc pc = .ok (.irem, 1)) : hv_I (hv_SW p l e R s m args below meth c Q D cl b sa cA nL) Fn pc lb (hv_step cm vk dv ft mc ms rt call .irem) (pc + 1) := by
  rintro ⟨ls, st, h, nc, ns⟩ r hr ok
  simp only [hv_step] at hr
  split at hr
  · split at hr
    · cases hr
    · rename_i h0
      cases Option.some.inj hr
      intro H locs la hl hP hS
      exact lv_irem hx hb hd h0 (ok H locs la hl hP hS)
  · cases hr
theorem hv_t_ldiv (hx : p.tables.exec = Jvm.exec) (hb : c.code = cc) (hd : decode cc pc = .ok (.ldiv, 1)) : hv_I (hv_SW p l e R s m args below meth c Q D cl b sa cA nL) Fn pc lb (hv_step cm vk dv ft mc ms rt call .ldiv) (pc + 1) := by
  rintro ⟨ls, st, h, nc, ns⟩ r hr ok
  simp only [hv_step] at hr
  split at hr
  · split at hr
    · cases hr
    · rename_i h0
      cases Option.some.inj hr
      intro H locs la hl hP hS
      exact lv_ldiv hx hb hd h0 (ok H locs la hl hP hS)
  · cases hr
theorem hv_t_lrem (hx : p.tables.exec = Jvm.exec) (hb : c.code = cc) (hd : decode cc pc = .ok (.lrem, 1)) : hv_I (hv_SW p l e R s m args below meth c Q D cl b sa cA nL) Fn pc lb (hv_step cm vk dv ft mc ms rt call .lrem) (pc + 1) := by
  rintro ⟨ls, st, h, nc, ns⟩ r hr ok
  simp only [hv_step] at hr
  split at hr
  · split at hr
    · cases hr
    · rename_i h0
      cases Option.some.inj hr
      intro H locs la hl hP hS
      exact lv_lrem hx hb hd h0 (ok H locs la hl hP hS)
  · cases hr
theorem hv_t_dup (hx : p.tables.exec = Jvm.exec) (hb : c.code = cc) (hd : decode cc pc = .ok (.dup, 1)) : hv_I (hv_SW p l e R s m args below meth c Q D cl b sa cA nL) Fn pc lb (hv_step cm vk dv ft mc ms rt call .dup) (pc + 1) := by
  rintro ⟨ls, st, h, nc, ns⟩ r hr ok
  simp only [hv_step] at hr
  split at hr
  · cases Option.some.inj hr
    intro H locs la hl hP hS
    exact lv_dup hx hb hd rfl (ok H locs la hl hP hS)
  · cases Option.some.inj hr
    intro H locs la hl hP hS
    exact lv_dup hx hb hd rfl (ok H locs la hl hP hS)
  · cases hr
theorem hv_t_pop (hx : p.tables.exec = Jvm.exec) (hb : c.code = cc) (hd : decode cc pc = .ok (.pop, 1)) : hv_I (hv_SW p l e R s m args below meth c Q D cl b sa cA nL) Fn pc lb (hv_step cm vk dv ft mc ms rt call .pop) (pc + 1) := by
  rintro ⟨ls, st, h, nc, ns⟩ r hr ok
  simp only [hv_step] at hr
  split at hr
  · rename_i x _
    cases Option.some.inj hr
    intro H locs la hl hP hS
    exact lv_pop (va := .int x) hx hb hd rfl (ok H locs la hl hP hS)
  · rename_i x _
    cases Option.some.inj hr
    intro H locs la hl hP hS
    exact lv_pop (va := .ref (b + x)) hx hb hd rfl (ok H locs la hl hP hS)
  · cases hr
theorem hv_t_dup2 (hx : p.tables.exec = Jvm.exec) (hb : c.code = cc) (hd : decode cc pc = .ok (.dup2, 1)) : hv_I (hv_SW p l e R s m args below meth c Q D cl b sa cA nL) Fn pc lb (hv_step cm vk dv ft mc ms rt call .dup2) (pc + 1) := by
  rintro ⟨ls, st, h, nc, ns⟩ r hr ok
  simp only [hv_step] at hr
  split at hr
  · rename_i x y _
    cases Option.some.inj hr
    intro H locs la hl hP hS
    exact lv_dup2_11 (va := .int x) (vb := .ref (b + y)) hx hb hd rfl rfl (ok H locs la hl hP hS)
  · cases hr
theorem hv_t_if_eq (hx : p.tables.exec = Jvm.exec) (hb : c.code = cc) {k : Int} {off : Int} {tgt : Nat} (hd : decode cc pc = .ok (.ifCond .eq off, 3)) (ht : (pc : Int) + off = (tgt : Int)) (hj : ∀ τ, (∃ t, lb[k.toNat]? = some t ∧ (hv_SW p l e R s m args below meth c Q D cl b sa cA nL) t τ) → (hv_SW p l e R s m args below meth c Q D cl b sa cA nL) tgt τ) : hv_I (hv_SW p l e R s m args below meth c Q D cl b sa cA nL) Fn pc lb (hv_step cm vk dv ft mc ms rt call (.ifCond .eq k)) (pc + 3) := by
  rintro ⟨ls, st, h, nc, ns⟩ r hr ok
  simp only [hv_step] at hr
  split at hr
  · split at hr
    · rename_i hc
      cases Option.some.inj hr
      intro H locs la hl hP hS
      refine lv_if_eq hx hb hd ht (fun _ => hj _ ok H locs la hl hP hS) (fun hn => absurd hc ?_)
      simpa [hv_cmp] using hn
    · rename_i hc
      cases Option.some.inj hr
      intro H locs la hl hP hS
      refine lv_if_eq hx hb hd ht (fun hp => absurd ?_ hc) (fun _ => ok H locs la hl hP hS)
      simpa [hv_cmp] using hp
  · cases hr
theorem hv_t_icmp_eq (hx : p.tables.exec = Jvm.exec) (hb : c.code = cc) {k : Int} {off : Int} {tgt : Nat} (hd : decode cc pc = .ok (.if_icmp .eq off, 3)) (ht : (pc : Int) + off = (tgt : Int)) (hj : ∀ τ, (∃ t, lb[k.toNat]? = some t ∧ (hv_SW p l e R s m args below meth c Q D cl b sa cA nL) t τ) → (hv_SW p l e R s m args below meth c Q D cl b sa cA nL) tgt τ) : hv_I (hv_SW p l e R s m args below meth c Q D cl b sa cA nL) Fn pc lb (hv_step cm vk dv ft mc ms rt call (.if_icmp .eq k)) (pc + 3) := by
  rintro ⟨ls, st, h, nc, ns⟩ r hr ok
  simp only [hv_step] at hr
  split at hr
  · split at hr
    · rename_i hc
      cases Option.some.inj hr
      intro H locs la hl hP hS
      refine lv_icmp_eq hx hb hd ht (fun _ => hj _ ok H locs la hl hP hS) (fun hn => absurd hc ?_)
      simpa [hv_cmp] using hn
    · rename_i hc
      cases Option.some.inj hr
      intro H locs la hl hP hS
      refine lv_icmp_eq hx hb hd ht (fun hp => absurd ?_ hc) (fun _ => ok H locs la hl hP hS)
      simpa [hv_cmp] using hp
  · cases hr
theorem hv_t_if_ne (hx : p.tables.exec = Jvm.exec) (hb : c.code = cc) {k : Int} {off : Int} {tgt : Nat} (hd : decode cc pc = .ok (.ifCond .ne off, 3)) (ht : (pc : Int) + off = (tgt : Int)) (hj : ∀ τ, (∃ t, lb[k.toNat]? = some t ∧ (hv_SW p l e R s m args below meth c Q D cl b sa cA nL) t τ) → (hv_SW p l e R s m args below meth c Q D cl b sa cA nL) tgt τ) : hv_I (hv_SW p l e R s m args below meth c Q D cl b sa cA nL) Fn pc lb (hv_step cm vk dv ft mc ms rt call (.ifCond .ne k)) (pc + 3) := by
  rintro ⟨ls, st, h, nc, ns⟩ r hr ok
  simp only [hv_step] at hr
  split at hr
  · split at hr
    · rename_i hc
      cases Option.some.inj hr
      intro H locs la hl hP hS
      refine lv_if_ne hx hb hd ht (fun _ => hj _ ok H locs la hl hP hS) (fun hn => absurd hc ?_)
      simpa [hv_cmp] using hn
    · rename_i hc
      cases Option.some.inj hr
      intro H locs la hl hP hS
      refine lv_if_ne hx hb hd ht (fun hp => absurd ?_ hc) (fun _ => ok H locs la hl hP hS)
      simpa [hv_cmp] using hp
  · cases hr
theorem hv_t_icmp_ne (hx : p.tables.exec = Jvm.exec) (hb : c.code = cc) {k : Int} {off : Int} {tgt : Nat} (hd : decode cc pc = .ok (.if_icmp .ne off, 3)) (ht : (pc : Int) + off = (tgt : Int)) (hj : ∀ τ, (∃ t, lb[k.toNat]? = some t ∧ (hv_SW p l e R s m args below meth c Q D cl b sa cA nL) t τ) → (hv_SW p l e R s m args below meth c Q D cl b sa cA nL) tgt τ) : hv_I (hv_SW p l e R s m args below meth c Q D cl b sa cA nL) Fn pc lb (hv_step cm vk dv ft mc ms rt call (.if_icmp .ne k)) (pc + 3) := by
  rintro ⟨ls, st, h, nc, ns⟩ r hr ok
  simp only [hv_step] at hr
  split at hr
  · split at hr
    · rename_i hc
      cases Option.some.inj hr
      intro H locs la hl hP hS
      refine lv_icmp_ne hx hb hd ht (fun _ => hj _ ok H locs la hl hP hS) (fun hn => absurd hc ?_)
      simpa [hv_cmp] using hn
    · rename_i hc
      cases Option.some.inj hr
      intro H locs la hl hP hS
      refine lv_icmp_ne hx hb hd ht (fun hp => absurd ?_ hc) (fun _ => ok H locs la hl hP hS)
      simpa [hv_cmp] using hp
  · cases hr
theorem hv_t_if_lt (hx : p.tables.exec = Jvm.exec) (hb : c.code = cc) {k : Int} {off : Int} {tgt : Nat} (hd : decode cc pc = .ok (.ifCond .lt off, 3)) (ht : (pc : Int) + off = (tgt : Int)) (hj : ∀ τ, (∃ t, lb[k.toNat]? = some t ∧ (hv_SW p l e R s m args below meth c Q D cl b sa cA nL) t τ) → (hv_SW p l e R s m args below meth c Q D cl b sa cA nL) tgt τ) : hv_I (hv_SW p l e R s m args below meth c Q D cl b sa cA nL) Fn pc lb (hv_step cm vk dv ft mc ms rt call (.ifCond .lt k)) (pc + 3) := by
  rintro ⟨ls, st, h, nc, ns⟩ r hr ok
  simp only [hv_step] at hr
  split at hr
  · split at hr
    · rename_i hc
      cases Option.some.inj hr
      intro H locs la hl hP hS
      refine lv_if_lt hx hb hd ht (fun _ => hj _ ok H locs la hl hP hS) (fun hn => absurd hc ?_)
      simpa [hv_cmp] using hn
    · rename_i hc
      cases Option.some.inj hr
      intro H locs la hl hP hS
      refine lv_if_lt hx hb hd ht (fun hp => absurd ?_ hc) (fun _ => ok H locs la hl hP hS)
      simpa [hv_cmp] using hp
  · cases hr
theorem hv_t_icmp_lt (hx : p.tables.exec = Jvm.exec) (hb : c.code = cc) {k : Int} {off : Int} {tgt : Nat} (hd : decode cc pc = .ok (.if_icmp .lt off, 3)) (ht : (pc : Int) + off = (tgt : Int)) (hj : ∀ τ, (∃ t, lb[k.toNat]? = some t ∧ (hv_SW p l e R s m args below meth c Q D cl b sa cA nL) t τ) → (hv_SW p l e R s m args below meth c Q D cl b sa cA nL) tgt τ) : hv_I (hv_SW p l e R s m args below meth c Q D cl b sa cA nL) Fn pc lb (hv_step cm vk dv ft mc ms rt call (.if_icmp .lt k)) (pc + 3) := by
  rintro ⟨ls, st, h, nc, ns⟩ r hr ok
  simp only [hv_step] at hr
  split at hr
  · split at hr
    · rename_i hc
      cases Option.some.inj hr
      intro H locs la hl hP hS
      refine lv_icmp_lt hx hb hd ht (fun _ => hj _ ok H locs la hl hP hS) (fun hn => absurd hc ?_)
      simpa [hv_cmp] using hn
    · rename_i hc
      cases Option.some.inj hr
      intro H locs la hl hP hS
      refine lv_icmp_lt hx hb hd ht (fun hp => absurd ?_ hc) (fun _ => ok H locs la hl hP hS)
      simpa [hv_cmp] using hp
  · cases hr
theorem hv_t_if_ge (hx : p.tables.exec = Jvm.exec) (hb : c.code = cc) {k : Int} {off : Int} {tgt : Nat} (hd : decode cc pc = .ok (.ifCond .ge off, 3)) (ht : (pc : Int) + off = (tgt : Int)) (hj : ∀ τ, (∃ t, lb[k.toNat]? = some t ∧ (hv_SW p l e R s m args below meth c Q D cl b sa cA nL) t τ) → (hv_SW p l e R s m args below meth c Q D cl b sa cA nL) tgt τ) : hv_I (hv_SW p l e R s m args below meth c Q D cl b sa cA nL) Fn pc lb (hv_step cm vk dv ft mc ms rt call (.ifCond .ge k)) (pc + 3) := by
  rintro ⟨ls, st, h, nc, ns⟩ r hr ok
  simp only [hv_step] at hr
  split at hr
  · split at hr
    · rename_i hc
      cases Option.some.inj hr
      intro H locs la hl hP hS
      refine lv_if_ge hx hb hd ht (fun _ => hj _ ok H locs la hl hP hS) (fun hn => absurd hc ?_)
      simpa [hv_cmp] using hn
    · rename_i hc
      cases Option.some.inj hr
      intro H locs la hl hP hS
      refine lv_if_ge hx hb hd ht (fun hp => absurd ?_ hc) (fun _ => ok H locs la hl hP hS)
      simpa [hv_cmp] using hp
  · cases hr
theorem hv_t_icmp_ge (hx : p.tables.exec = Jvm.exec) (hb : c.code = cc) {k : Int} {off : Int} {tgt : Nat} (hd : decode cc pc = .ok (.if_icmp .ge off, 3)) (ht : (pc : Int) + off = (tgt : Int)) (hj : ∀ τ, (∃ t, lb[k.toNat]? = some t ∧ (hv_SW p l e R s m args below meth c Q D cl b sa cA nL) t τ) → (hv_SW p l e R s m args below meth c Q D cl b sa cA nL) tgt τ) : hv_I (hv_SW p l e R s m args below meth c Q D cl b sa cA nL) Fn pc lb (hv_step cm vk dv ft mc ms rt call (.if_icmp .ge k)) (pc + 3) := by
  rintro ⟨ls, st, h, nc, ns⟩ r hr ok
  simp only [hv_step] at hr
  split at hr
  · split at hr
    · rename_i hc
      cases Option.some.inj hr
      intro H locs la hl hP hS
      refine lv_icmp_ge hx hb hd ht (fun _ => hj _ ok H locs la hl hP hS) (fun hn => absurd hc ?_)
      simpa [hv_cmp] using hn
    · rename_i hc
      cases Option.some.inj hr
      intro H locs la hl hP hS
      refine lv_icmp_ge hx hb hd ht (fun hp => absurd ?_ hc) (fun _ => ok H locs la hl hP hS)
      simpa [hv_cmp] using hp
  · cases hr
theorem hv_t_if_gt (hx : p.tables.exec = Jvm.exec) (hb : c.code = cc) {k : Int} {off : Int} {tgt : Nat} (hd : decode cc pc = .ok (.ifCond .gt off, 3)) (ht : (pc : Int) + off = (tgt : Int)) (hj : ∀ τ, (∃ t, lb[k.toNat]? = some t ∧ (hv_SW p l e R s m args below meth c Q D cl b sa cA nL) t τ) → (hv_SW p l e R s m args below meth c Q D cl b sa cA nL) tgt τ) : hv_I (hv_SW p l e R s m args below meth c Q D cl b sa cA nL) Fn pc lb (hv_step cm vk dv ft mc ms rt call (.ifCond .gt k)) (pc + 3) := by
  rintro ⟨ls, st, h, nc, ns⟩ r hr ok
  simp only [hv_step] at hr
  split at hr
  · split at hr
    · rename_i hc
      cases Option.some.inj hr
      intro H locs la hl hP hS
      refine lv_if_gt hx hb hd ht (fun _ => hj _ ok H locs la hl hP hS) (fun hn => absurd hc ?_)
      simpa [hv_cmp] using hn
    · rename_i hc
      cases Option.some.inj hr
      intro H locs la hl hP hS
      refine lv_if_gt hx hb hd ht (fun hp => absurd ?_ hc) (fun _ => ok H locs la hl hP hS)
      simpa [hv_cmp] using hp
  · cases hr
theorem hv_t_icmp_gt (hx : p.tables.exec = Jvm.exec) (hb : c.code = cc) {k : Int} {off : Int} {tgt : Nat} (hd : decode cc pc = .ok (.if_icmp .gt off, 3)) (ht : (pc : Int) + off = (tgt : Int)) (hj : ∀ τ, (∃ t, lb[k.toNat]? = some t ∧ (hv_SW p l e R s m args below meth c Q D cl b sa cA nL) t τ) → (hv_SW p l e R s m args below meth c Q D cl b sa cA nL) tgt τ) : hv_I (hv_SW p l e R s m args below meth c Q D cl b sa cA nL) Fn pc lb (hv_step cm vk dv ft mc ms rt call (.if_icmp .gt k)) (pc + 3) := by
  rintro ⟨ls, st, h, nc, ns⟩ r hr ok
  simp only [hv_step] at hr
  split at hr
  · split at hr
    · rename_i hc
      cases Option.some.inj hr
      intro H locs la hl hP hS
      refine lv_icmp_gt hx hb hd ht (fun _ => hj _ ok H locs la hl hP hS) (fun hn => absurd hc ?_)
      simpa [hv_cmp] using hn
    · rename_i hc
      cases Option.some.inj hr
      intro H locs la hl hP hS
      refine lv_icmp_gt hx hb hd ht (fun hp => absurd ?_ hc) (fun _ => ok H locs la hl hP hS)
      simpa [hv_cmp] using hp
  · cases hr
theorem hv_t_if_le (hx : p.tables.exec = Jvm.exec) (hb : c.code = cc) {k : Int} {off : Int} {tgt : Nat} (hd : decode cc pc = .ok (.ifCond .le off, 3)) (ht : (pc : Int) + off = (tgt : Int)) (hj : ∀ τ, (∃ t, lb[k.toNat]? = some t ∧ (hv_SW p l e R s m args below meth c Q D cl b sa cA nL) t τ) → (hv_SW p l e R s m args below meth c Q D cl b sa cA nL) tgt τ) : hv_I (hv_SW p l e R s m args below meth c Q D cl b sa cA nL) Fn pc lb (hv_step cm vk dv ft mc ms rt call (.ifCond .le k)) (pc + 3) := by
  rintro ⟨ls, st, h, nc, ns⟩ r hr ok
  simp only [hv_step] at hr
  split at hr
  · split at hr
    · rename_i hc
      cases Option.some.inj hr
      intro H locs la hl hP hS
      refine lv_if_le hx hb hd ht (fun _ => hj _ ok H locs la hl hP hS) (fun hn => absurd hc ?_)
      simpa [hv_cmp] using hn
    · rename_i hc
      cases Option.some.inj hr
      intro H locs la hl hP hS
      refine lv_if_le hx hb hd ht (fun hp => absurd ?_ hc) (fun _ => ok H locs la hl hP hS)
      simpa [hv_cmp] using hp
  · cases hr
theorem hv_t_icmp_le (hx : p.tables.exec = Jvm.exec) (hb : c.code = cc) {k : Int} {off : Int} {tgt : Nat} (hd : decode cc pc = .ok (.if_icmp .le off, 3)) (ht : (pc : Int) + off = (tgt : Int)) (hj : ∀ τ, (∃ t, lb[k.toNat]? = some t ∧ (hv_SW p l e R s m args below meth c Q D cl b sa cA nL) t τ) → (hv_SW p l e R s m args below meth c Q D cl b sa cA nL) tgt τ) : hv_I (hv_SW p l e R s m args below meth c Q D cl b sa cA nL) Fn pc lb (hv_step cm vk dv ft mc ms rt call (.if_icmp .le k)) (pc + 3) := by
  rintro ⟨ls, st, h, nc, ns⟩ r hr ok
  simp only [hv_step] at hr
  split at hr
  · split at hr
    · rename_i hc
      cases Option.some.inj hr
      intro H locs la hl hP hS
      refine lv_icmp_le hx hb hd ht (fun _ => hj _ ok H locs la hl hP hS) (fun hn => absurd hc ?_)
      simpa [hv_cmp] using hn
    · rename_i hc
      cases Option.some.inj hr
      intro H locs la hl hP hS
      refine lv_icmp_le hx hb hd ht (fun hp => absurd ?_ hc) (fun _ => ok H locs la hl hP hS)
      simpa [hv_cmp] using hp
  · cases hr
theorem hv_t_goto (hx : p.tables.exec = Jvm.exec) (hb : c.code = cc) {k : Int} {off : Int} {tgt : Nat} (hd : decode cc pc = .ok (.goto off, 3)) (ht : (pc : Int) + off = (tgt : Int)) (hj : ∀ τ, (∃ t, lb[k.toNat]? = some t ∧ (hv_SW p l e R s m args below meth c Q D cl b sa cA nL) t τ) → (hv_SW p l e R s m args below meth c Q D cl b sa cA nL) tgt τ) : hv_I (hv_SW p l e R s m args below meth c Q D cl b sa cA nL) Fn pc lb (hv_step cm vk dv ft mc ms rt call (.goto k)) (pc + 3) := by
  rintro ⟨ls, st, h, nc, ns⟩ r hr ok
  simp only [hv_step] at hr
  cases Option.some.inj hr
  intro H locs la hl hP hS
  exact lv_goto hx hb hd ht (hj _ ok H locs la hl hP hS)
theorem hv_t_ifnull (hx : p.tables.exec = Jvm.exec) (hb : c.code = cc) {k : Int} {off : Int} {tgt : Nat} (hd : decode cc pc = .ok (.ifnull off, 3)) (ht : (pc : Int) + off = (tgt : Int)) (hj : ∀ τ, (∃ t, lb[k.toNat]? = some t ∧ (hv_SW p l e R s m args below meth c Q D cl b sa cA nL) t τ) → (hv_SW p l e R s m args below meth c Q D cl b sa cA nL) tgt τ) : hv_I (hv_SW p l e R s m args below meth c Q D cl b sa cA nL) Fn pc lb (hv_step cm vk dv ft mc ms rt call (.ifnull k)) (pc + 3) := by
  rintro ⟨ls, st, h, nc, ns⟩ r hr ok
  simp only [hv_step] at hr
  split at hr
  · cases Option.some.inj hr
    intro H locs la hl hP hS
    exact lv_ifnullN hx hb hd ht (hj _ ok H locs la hl hP hS)
  · cases Option.some.inj hr
    intro H locs la hl hP hS
    exact lv_ifnull hx hb hd (ok H locs la hl hP hS)
  · cases hr
theorem hv_t_ifnonnull (hx : p.tables.exec = Jvm.exec) (hb : c.code = cc) {k : Int} {off : Int} {tgt : Nat} (hd : decode cc pc = .ok (.ifnonnull off, 3)) (ht : (pc : Int) + off = (tgt : Int)) (hj : ∀ τ, (∃ t, lb[k.toNat]? = some t ∧ (hv_SW p l e R s m args below meth c Q D cl b sa cA nL) t τ) → (hv_SW p l e R s m args below meth c Q D cl b sa cA nL) tgt τ) : hv_I (hv_SW p l e R s m args below meth c Q D cl b sa cA nL) Fn pc lb (hv_step cm vk dv ft mc ms rt call (.ifnonnull k)) (pc + 3) := by
  rintro ⟨ls, st, h, nc, ns⟩ r hr ok
  simp only [hv_step] at hr
  split at hr
  · cases Option.some.inj hr
    intro H locs la hl hP hS
    exact lv_ifnonnullN hx hb hd (ok H locs la hl hP hS)
  · cases Option.some.inj hr
    intro H locs la hl hP hS
    exact lv_ifnonnull hx hb hd ht (hj _ ok H locs la hl hP hS)
  · cases hr
theorem hv_t_tableswitch (hx : p.tables.exec = Jvm.exec) (hb : c.code = cc) {d lo hi : Int} {ks : Array Int} {dflt : Int} {offs : Array Int} {len td : Nat} (hd : decode cc pc = .ok (.tableswitch dflt lo hi offs, len)) (ht : (pc : Int) + dflt = (td : Int)) (hjd : ∀ τ, (∃ t, lb[d.toNat]? = some t ∧ (hv_SW p l e R s m args below meth c Q D cl b sa cA nL) t τ) → (hv_SW p l e R s m args below meth c Q D cl b sa cA nL) td τ) (hj : ∀ (i : Nat) (k : Int), ks[i]? = some k → ∃ (off : Int) (tgt : Nat), offs[i]? = some off ∧ (pc : Int) + off = (tgt : Int) ∧ ∀ τ, (∃ t, lb[k.toNat]? = some t ∧ (hv_SW p l e R s m args below meth c Q D cl b sa cA nL) t τ) → (hv_SW p l e R s m args below meth c Q D cl b sa cA nL) tgt τ) : hv_I (hv_SW p l e R s m args below meth c Q D cl b sa cA nL) Fn pc lb (hv_step cm vk dv ft mc ms rt call (.tableswitch d lo hi ks)) (pc + len) := by
  rintro ⟨ls, st, h, nc, ns⟩ r hr ok
  simp only [hv_step] at hr
  split at hr
  · split at hr
    · rename_i hc
      cases Option.some.inj hr
      intro H locs la hl hP hS
      exact lv_tableOut hx hb hd hc ht (hjd _ ok H locs la hl hP hS)
    · rename_i hc
      split at hr
      · rename_i k hk
        cases Option.some.inj hr
        obtain ⟨off, tgt, h1, h2, h3⟩ := hj _ _ hk
        intro H locs la hl hP hS
        exact lv_tableIn hx hb hd (fun z => hc (Or.inl z)) (fun z => hc (Or.inr z)) h1 h2 (h3 _ ok H locs la hl hP hS)
      · cases hr
  · cases hr
end HVT
