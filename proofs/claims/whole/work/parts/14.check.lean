/-! An instruction of structured code is that at pc. -/
def hv_any3 (t : List (Nat × Nat × Nat × Nat)) (a b c : Nat) : Bool := t.any (fun r => r.1 == a && r.2.1 == b && r.2.2.1 == c)
def hv_any3i (t : List (Nat × Nat × Int × Nat)) (a b : Nat) (c : Int) : Bool := t.any (fun r => r.1 == a && r.2.1 == b && r.2.2.1 == c)
def hv_any2 (t : List (Nat × Nat × Nat)) (a b : Nat) : Bool := t.any (fun r => r.1 == a && r.2.1 == b)
def hv_any4 (t : List (Nat × Nat × Nat × Nat × Nat)) (a b c d : Nat) : Bool := t.any (fun r => r.1 == a && r.2.1 == b && r.2.2.1 == c && r.2.2.2.1 == d)
theorem hv_any3_mem {t : List (Nat × Nat × Nat × Nat)} {a b c : Nat} (h : hv_any3 t a b c = true) : ∃ k, (a, b, c, k) ∈ t := by
  obtain ⟨⟨x, y, z, k⟩, h1, h2⟩ := List.any_eq_true.mp h
  simp only [Bool.and_eq_true, beq_iff_eq] at h2
  obtain ⟨⟨rfl, rfl⟩, rfl⟩ := h2
  exact ⟨k, h1⟩
theorem hv_any3i_mem {t : List (Nat × Nat × Int × Nat)} {a b : Nat} {c : Int} (h : hv_any3i t a b c = true) : ∃ k, (a, b, c, k) ∈ t := by
  obtain ⟨⟨x, y, z, k⟩, h1, h2⟩ := List.any_eq_true.mp h
  simp only [Bool.and_eq_true, beq_iff_eq] at h2
  obtain ⟨⟨rfl, rfl⟩, rfl⟩ := h2
  exact ⟨k, h1⟩
theorem hv_any2_mem {t : List (Nat × Nat × Nat)} {a b : Nat} (h : hv_any2 t a b = true) : ∃ k, (a, b, k) ∈ t := by
  obtain ⟨⟨x, y, k⟩, h1, h2⟩ := List.any_eq_true.mp h
  simp only [Bool.and_eq_true, beq_iff_eq] at h2
  obtain ⟨rfl, rfl⟩ := h2
  exact ⟨k, h1⟩
theorem hv_any4_mem {t : List (Nat × Nat × Nat × Nat × Nat)} {a b c d : Nat} (h : hv_any4 t a b c d = true) : ∃ k, (a, b, c, d, k) ∈ t := by
  obtain ⟨⟨x, y, z, w, k⟩, h1, h2⟩ := List.any_eq_true.mp h
  simp only [Bool.and_eq_true, beq_iff_eq] at h2
  obtain ⟨⟨⟨rfl, rfl⟩, rfl⟩, rfl⟩ := h2
  exact ⟨k, h1⟩
def hv_lab (lb : List Nat) (pc : Nat) (off k : Int) : Bool := match lb[k.toNat]? with
  | some t => decide ((pc : Int) + off = (t : Int))
  | none => false
theorem hv_lab_to {Sf : Nat → hv_S → Prop} {lb : List Nat} {pc : Nat} {off k : Int} (h : hv_lab lb pc off k = true) : ∃ tgt : Nat, (pc : Int) + off = (tgt : Int) ∧ ∀ τ, (∃ t, lb[k.toNat]? = some t ∧ Sf t τ) → Sf tgt τ := by
  unfold hv_lab at h
  split at h
  · rename_i t e
    refine ⟨t, of_decide_eq_true h, fun τ ⟨t2, h2, h3⟩ => ?_⟩
    cases Option.some.inj (e.symm.trans h2)
    exact h3
  · cases h
/-- a call at pc is of method j with n values -/
def hv_ckc (own : Nat) (cc : ByteArray) (pc j n : Nat) : Bool := match decode cc pc with
  | .ok (.invokevirtual x, 3) => hv_any4 hv_MV own x j n || hv_any4 hv_MX own x j n
  | .ok (.invokestatic x, 3) => hv_any4 hv_MS own x j n || hv_any4 hv_MSN own x j n
  | .ok (.invokespecial x, 3) => hv_any4 hv_MI own x j n || hv_any4 hv_MIN own x j n
  | _ => false
def hv_ck (own : Nat) (ini : Bool) (rt : Option FieldType) (cc : ByteArray) (lb : List Nat) (pc : Nat) (i : Instr) : Option Nat := match i with
  | .iconst n => match decode cc pc with
    | .ok (.iconst k, 1) => if k = n then some (pc + 1) else none
    | .ok (.bipush k, 2) => if (Int8.ofInt k).toInt32 = Int32.ofInt n then some (pc + 2) else none
    | .ok (.sipush k, 3) => if (Int16.ofInt k).toInt32 = Int32.ofInt n then some (pc + 3) else none
    | .ok (.ldc x, 2) => if hv_any3i hv_KT own x n = true then some (pc + 2) else none
    | .ok (.ldc_w x, 3) => if hv_any3i hv_KT own x n = true then some (pc + 3) else none
    | _ => none
  | .bipush n => match decode cc pc with
    | .ok (.lconst k, 1) => if Int64.ofNat (k : Nat) = Int64.ofInt n then some (pc + 1) else none
    | .ok (.ldc2_w x, 3) => if hv_any3i hv_LT own x n = true then some (pc + 3) else none
    | _ => none
  | .ldc k => match decode cc pc with
    | .ok (.ldc x, 2) => if hv_any3 hv_ST own x k = true then some (pc + 2) else none
    | _ => none
  | .iload i => match decode cc pc with
    | .ok (.iload j, 2) => if j = i then some (pc + 2) else none
    | .ok (.iload_n j, 1) => if (j : Nat) = i then some (pc + 1) else none
    | _ => none
  | .istore i => match decode cc pc with
    | .ok (.istore j, 2) => if j = i then some (pc + 2) else none
    | .ok (.istore_n j, 1) => if (j : Nat) = i then some (pc + 1) else none
    | _ => none
  | .lload i => match decode cc pc with
    | .ok (.lload j, 2) => if j = i then some (pc + 2) else none
    | .ok (.lload_n j, 1) => if (j : Nat) = i then some (pc + 1) else none
    | _ => none
  | .lstore i => match decode cc pc with
    | .ok (.lstore j, 2) => if j = i then some (pc + 2) else none
    | .ok (.lstore_n j, 1) => if (j : Nat) = i then some (pc + 1) else none
    | _ => none
  | .aload i => match decode cc pc with
    | .ok (.aload j, 2) => if j = i then some (pc + 2) else none
    | .ok (.aload_n j, 1) => if (j : Nat) = i then some (pc + 1) else none
    | _ => none
  | .astore i => match decode cc pc with
    | .ok (.astore j, 2) => if j = i then some (pc + 2) else none
    | .ok (.astore_n j, 1) => if (j : Nat) = i then some (pc + 1) else none
    | _ => none
  | .iinc a b => if decode cc pc = .ok (.iinc a b, 3) then some (pc + 3) else none
  | .goto k => match decode cc pc with
    | .ok (.goto o, 3) => if hv_lab lb pc o k = true then some (pc + 3) else none
    | _ => none
  | .ifCond op k => match decode cc pc with
    | .ok (.ifCond op2 o, 3) => if op2 = op ∧ hv_lab lb pc o k = true then some (pc + 3) else none
    | _ => none
  | .if_icmp op k => match decode cc pc with
    | .ok (.if_icmp op2 o, 3) => if op2 = op ∧ hv_lab lb pc o k = true then some (pc + 3) else none
    | _ => none
  | .ifnull k => match decode cc pc with
    | .ok (.ifnull o, 3) => if hv_lab lb pc o k = true then some (pc + 3) else none
    | _ => none
  | .ifnonnull k => match decode cc pc with
    | .ok (.ifnonnull o, 3) => if hv_lab lb pc o k = true then some (pc + 3) else none
    | _ => none
  | .tableswitch d lo hi ks => match decode cc pc with
    | .ok (.tableswitch d2 lo2 hi2 os, len) => if lo2 = lo ∧ hi2 = hi ∧ hv_lab lb pc d2 d = true ∧ ks.size = os.size ∧ (List.range ks.size).all (fun i => hv_lab lb pc (os.getD i 0) (ks.getD i 0)) = true then some (pc + len) else none
    | _ => none
  | .getfield n => match decode cc pc with
    | .ok (.getfield x, 3) => if hv_any3 hv_FT own x n = true ∨ hv_any3 hv_FN own x n = true then some (pc + 3) else none
    | _ => none
  | .putfield n => match decode cc pc with
    | .ok (.putfield x, 3) => if (hv_any3 hv_FT own x n = true ∧ ((hv_T (n / 100) (n % 100)).2.2.2 = false ∨ (ini = true ∧ (hv_T (n / 100) (n % 100)).1 = hv_on own))) ∨ (hv_any3 hv_FN own x n = true ∧ (hv_T (n / 100) (n % 100)).2.2.2 = false) then some (pc + 3) else none
    | _ => none
  | .new ci => match decode cc pc with
    | .ok (.new x, 3) => if hv_any3 hv_CT own x ci = true then some (pc + 3) else none
    | _ => none
  | .newarray ty => if decode cc pc = .ok (.newarray ty, 2) ∧ (ty = .int ∨ ty = .byte ∨ ty = .boolean ∨ ty = .long) then some (pc + 2) else none
  | .anewarray t => match decode cc pc with
    | .ok (.anewarray x, 3) => if hv_any3 hv_AT own x t = true then some (pc + 3) else none
    | _ => none
  | .invokespecial _ => match decode cc pc with
    | .ok (.invokespecial x, 3) => if hv_any2 hv_OT own x = true then some (pc + 3) else none
    | _ => none
  | .invokestatic _ => match decode cc pc with
    | .ok (.invokestatic x, 3) => if hv_any2 hv_YT own x = true then some (pc + 3) else none
    | _ => none
  | .swap => if own = 14 ∧ decode cc pc = .ok (.invokevirtual 316, 3) then some (pc + 3) else none
  | .checkcast _ => if own = 14 ∧ decode cc pc = .ok (.checkcast 317, 3) then some (pc + 3) else none
  | .invokeinterface j n => if hv_ckc own cc pc j n = true then some (pc + 3) else none
  | .areturn => if decode cc pc = .ok (.areturn, 1) then match rt with
    | some (.object _) => some (pc + 1)
    | some (.array _) => some (pc + 1)
    | _ => none
    else none
  | .return_ => if decode cc pc = .ok (.return_, 1) ∧ rt = none then some (pc + 1) else none
  | .aconst_null => if decode cc pc = .ok (.aconst_null, 1) then some (pc + 1) else none
  | .iadd => if decode cc pc = .ok (.iadd, 1) then some (pc + 1) else none
  | .isub => if decode cc pc = .ok (.isub, 1) then some (pc + 1) else none
  | .imul => if decode cc pc = .ok (.imul, 1) then some (pc + 1) else none
  | .iand => if decode cc pc = .ok (.iand, 1) then some (pc + 1) else none
  | .ior => if decode cc pc = .ok (.ior, 1) then some (pc + 1) else none
  | .ishl => if decode cc pc = .ok (.ishl, 1) then some (pc + 1) else none
  | .ishr => if decode cc pc = .ok (.ishr, 1) then some (pc + 1) else none
  | .iushr => if decode cc pc = .ok (.iushr, 1) then some (pc + 1) else none
  | .idiv => if decode cc pc = .ok (.idiv, 1) then some (pc + 1) else none
  | .irem => if decode cc pc = .ok (.irem, 1) then some (pc + 1) else none
  | .ineg => if decode cc pc = .ok (.ineg, 1) then some (pc + 1) else none
  | .ladd => if decode cc pc = .ok (.ladd, 1) then some (pc + 1) else none
  | .lsub => if decode cc pc = .ok (.lsub, 1) then some (pc + 1) else none
  | .lmul => if decode cc pc = .ok (.lmul, 1) then some (pc + 1) else none
  | .ldiv => if decode cc pc = .ok (.ldiv, 1) then some (pc + 1) else none
  | .lrem => if decode cc pc = .ok (.lrem, 1) then some (pc + 1) else none
  | .lcmp => if decode cc pc = .ok (.lcmp, 1) then some (pc + 1) else none
  | .i2l => if decode cc pc = .ok (.i2l, 1) then some (pc + 1) else none
  | .l2i => if decode cc pc = .ok (.l2i, 1) then some (pc + 1) else none
  | .i2b => if decode cc pc = .ok (.i2b, 1) then some (pc + 1) else none
  | .dup => if decode cc pc = .ok (.dup, 1) then some (pc + 1) else none
  | .dup2 => if decode cc pc = .ok (.dup2, 1) then some (pc + 1) else none
  | .pop => if decode cc pc = .ok (.pop, 1) then some (pc + 1) else none
  | .iaload => if decode cc pc = .ok (.iaload, 1) then some (pc + 1) else none
  | .baload => if decode cc pc = .ok (.baload, 1) then some (pc + 1) else none
  | .laload => if decode cc pc = .ok (.laload, 1) then some (pc + 1) else none
  | .aaload => if decode cc pc = .ok (.aaload, 1) then some (pc + 1) else none
  | .iastore => if decode cc pc = .ok (.iastore, 1) then some (pc + 1) else none
  | .bastore => if decode cc pc = .ok (.bastore, 1) then some (pc + 1) else none
  | .lastore => if decode cc pc = .ok (.lastore, 1) then some (pc + 1) else none
  | .aastore => if decode cc pc = .ok (.aastore, 1) then some (pc + 1) else none
  | .arraylength => if decode cc pc = .ok (.arraylength, 1) then some (pc + 1) else none
  | .ireturn => if decode cc pc = .ok (.ireturn, 1) then some (pc + 1) else none
  | .lreturn => if decode cc pc = .ok (.lreturn, 1) then some (pc + 1) else none
  | _ => none
abbrev hv_aI : Nat := 177
abbrev hv_aB : Nat := 867
abbrev hv_aZ : Nat := 1439
abbrev hv_aJ : Nat := 1440
abbrev hv_oI : Nat := 158
abbrev hv_yN : Nat := 862
abbrev hv_yS : Nat := 861
abbrev hv_yI : Nat := 150
abbrev hv_c1 : Nat := 852
abbrev hv_c2 : Nat := 853
abbrev hv_c3 : Nat := 854
abbrev hv_c4 : Nat := 855
abbrev hv_c5 : Nat := 856
abbrev hv_c6 : Nat := 857
abbrev hv_c7 : Nat := 858
theorem hv_oC_in : Jvm.Cond.code Lib.objectInit ⟨#[0xb1]⟩ 1 none ∈ lw_tbl := hv_sub1 (List.mem_of_getElem? (i := 28) rfl)
def hv_X (p : Program) (R : Room) (s : State) (m : MethodId) (args : Array Value) (meth : Method) (c : Code) (cc : ByteArray) (nL own : Nat) (ini : Bool) (D : va_G) (b : Nat) (sa sv : Nat → Nat) (cA : Nat → ClassId) (mc ms : Nat) : Prop :=
  (p.tables.exec = Jvm.exec ∧ c.code = cc ∧ c.maxLocals = nL ∧ s.vm.findClass (hv_on own) = some m.cls) ∧ (∀ w ∈ hv_G, w.before args s = true) ∧ hv_Kx D b sa sv cA s ∧ (mc ≤ R.cells ∧ ms ≤ R.slots ∧ 1 ≤ R.frames ∧ 100 ≤ R.locals) ∧ (ini = true → meth.name = "<init>")
def hv_XE (s : State) (args : Array Value) (below : List Frame) (meth : Method) (Q : State → Prop) (D : va_G) (b : Nat) (sa : Nat → Nat) (cA : Nat → ClassId) (Fn : hv_R → Prop) (mc ms : Nat) (rt : Option FieldType) : Prop :=
  ∃ (Qc : Array Value → State → Outcome → State → Prop) (free : Addr → Prop), Q = MQ below Qc args s mc ms free ∧ meth.sig.returnType = rt ∧ meth.locks = false ∧ (∀ q, b ≤ q → free q) ∧ ∀ (rv : Option Value) (h : hv_H) (H : Heap) (locs : List Loc) (t : State), Fn (rv, h) → hv_P D vwCl b sa cA h H → va_S (fun q => b ≤ q) s.heap H locs → t.heap = H → s.WarmedH t.vm → Qc args s (.returned (rv.map (hv_cv b sa))) t
def hv_XC (p : Program) (l : Launch) (e : Env) (R : Room) (s : State) (m : MethodId) (args : Array Value) (below : List Frame) (meth : Method) (c : Code) (Q : State → Prop) (cc : ByteArray) (nL own : Nat) (D : va_G) (b : Nat) (sa : Nat → Nat) (cA : Nat → ClassId) (call : hv_F) : Prop :=
  ∀ (pc j n : Nat), hv_ckc own cc pc j n = true → ∀ (as : List Value) (h : hv_H) (rv : Option Value) (h' : hv_H), as.length = n → call j as h = some (rv, h') → hv_CL p l e R s m args below meth c Q D vwCl b sa cA nL pc (hv_cm j) (hv_vk j) as h rv h'
section HVK
variable {p : Program} {l : Launch} {e : Env} {R : Room} {s : State} {m : MethodId} {args : Array Value} {below : List Frame} {meth : Method} {c : Code} {Q : State → Prop} {cc : ByteArray} {nL own : Nat} {ini : Bool} {D : va_G} {b : Nat} {sa sv : Nat → Nat} {cA : Nat → ClassId} {Fn : hv_R → Prop} {pc pc' : Nat} {lb : List Nat} {mc ms : Nat} {rt : Option FieldType} {call : hv_F}
theorem hv_k_iconst (X : hv_X p R s m args meth c cc nL own ini D b sa sv cA mc ms) {n : Int} (hc : hv_ck own ini rt cc lb pc (.iconst n) = some pc') : hv_I (hv_SW p l e R s m args below meth c Q D vwCl b sa cA nL) Fn pc lb (hv_step hv_cm hv_vk hv_dv hv_ft mc ms rt call (.iconst n)) pc' := by
  obtain ⟨⟨hx, hb, hml, hown⟩, hts, hKx, ⟨hRc, hRs, hRf, hRl⟩, hini⟩ := X
  simp only [hv_ck] at hc
  split at hc
  · rename_i k hd
    split at hc
    · rename_i hk
      cases Option.some.inj hc
      subst hk
      exact hv_t_iconst hx hb hd
    · cases hc
  · rename_i k hd
    split at hc
    · rename_i hk
      cases Option.some.inj hc
      exact hv_t_bipush hx hb hd hk
    · cases hc
  · rename_i k hd
    split at hc
    · rename_i hk
      cases Option.some.inj hc
      exact hv_t_sipush hx hb hd hk
    · cases hc
  · rename_i x hd
    split at hc
    · rename_i hk
      cases Option.some.inj hc
      obtain ⟨q, hq⟩ := hv_any3i_mem hk
      exact hv_t_ldci hx hb hown (hts _ (hv_inG (List.all_eq_true.mp hv_KT_ok _ hq) rfl)) hd
    · cases hc
  · rename_i x hd
    split at hc
    · rename_i hk
      cases Option.some.inj hc
      obtain ⟨q, hq⟩ := hv_any3i_mem hk
      exact hv_t_ldciw hx hb hown (hts _ (hv_inG (List.all_eq_true.mp hv_KT_ok _ hq) rfl)) hd
    · cases hc
  · cases hc
theorem hv_k_bipush (X : hv_X p R s m args meth c cc nL own ini D b sa sv cA mc ms) {n : Int} (hc : hv_ck own ini rt cc lb pc (.bipush n) = some pc') : hv_I (hv_SW p l e R s m args below meth c Q D vwCl b sa cA nL) Fn pc lb (hv_step hv_cm hv_vk hv_dv hv_ft mc ms rt call (.bipush n)) pc' := by
  obtain ⟨⟨hx, hb, hml, hown⟩, hts, hKx, ⟨hRc, hRs, hRf, hRl⟩, hini⟩ := X
  simp only [hv_ck] at hc
  split at hc
  · rename_i k hd
    split at hc
    · rename_i hk
      cases Option.some.inj hc
      exact hv_t_lconst hx hb hd hk
    · cases hc
  · rename_i x hd
    split at hc
    · rename_i hk
      cases Option.some.inj hc
      obtain ⟨q, hq⟩ := hv_any3i_mem hk
      exact hv_t_ldc2 hx hb hown (hts _ (hv_inG (List.all_eq_true.mp hv_LT_ok _ hq) rfl)) hd
    · cases hc
  · cases hc
theorem hv_k_ldc (X : hv_X p R s m args meth c cc nL own ini D b sa sv cA mc ms) {k : Nat} (hc : hv_ck own ini rt cc lb pc (.ldc k) = some pc') : hv_I (hv_SW p l e R s m args below meth c Q D vwCl b sa cA nL) Fn pc lb (hv_step hv_cm hv_vk hv_dv hv_ft mc ms rt call (.ldc k)) pc' := by
  obtain ⟨⟨hx, hb, hml, hown⟩, hts, hKx, ⟨hRc, hRs, hRf, hRl⟩, hini⟩ := X
  simp only [hv_ck] at hc
  split at hc
  · rename_i x hd
    split at hc
    · rename_i hk
      cases Option.some.inj hc
      obtain ⟨q, hq⟩ := hv_any3_mem hk
      have h9 : vk_R (hv_on own) x (hv_STR.getD k "") (sa k) s := hKx.2.2.2.2.1 (own, x, k, q) hq
      exact hv_t_ldcs hx hb hown h9 hd
    · cases hc
  · cases hc
theorem hv_k_iload (X : hv_X p R s m args meth c cc nL own ini D b sa sv cA mc ms) {i : Nat} (hc : hv_ck own ini rt cc lb pc (.iload i) = some pc') : hv_I (hv_SW p l e R s m args below meth c Q D vwCl b sa cA nL) Fn pc lb (hv_step hv_cm hv_vk hv_dv hv_ft mc ms rt call (.iload i)) pc' := by
  obtain ⟨⟨hx, hb, hml, hown⟩, hts, hKx, ⟨hRc, hRs, hRf, hRl⟩, hini⟩ := X
  simp only [hv_ck] at hc
  split at hc
  · rename_i k hd
    split at hc
    · rename_i hk
      cases Option.some.inj hc
      subst hk
      exact hv_t_iload hx hb hd
    · cases hc
  · rename_i k hd
    split at hc
    · rename_i hk
      cases Option.some.inj hc
      exact hv_t_iload_n hx hb hd hk
    · cases hc
  · cases hc
theorem hv_k_istore (X : hv_X p R s m args meth c cc nL own ini D b sa sv cA mc ms) {i : Nat} (hc : hv_ck own ini rt cc lb pc (.istore i) = some pc') : hv_I (hv_SW p l e R s m args below meth c Q D vwCl b sa cA nL) Fn pc lb (hv_step hv_cm hv_vk hv_dv hv_ft mc ms rt call (.istore i)) pc' := by
  obtain ⟨⟨hx, hb, hml, hown⟩, hts, hKx, ⟨hRc, hRs, hRf, hRl⟩, hini⟩ := X
  simp only [hv_ck] at hc
  split at hc
  · rename_i k hd
    split at hc
    · rename_i hk
      cases Option.some.inj hc
      subst hk
      exact hv_t_istore hx hb hd
    · cases hc
  · rename_i k hd
    split at hc
    · rename_i hk
      cases Option.some.inj hc
      exact hv_t_istore_n hx hb hd hk
    · cases hc
  · cases hc
theorem hv_k_lload (X : hv_X p R s m args meth c cc nL own ini D b sa sv cA mc ms) {i : Nat} (hc : hv_ck own ini rt cc lb pc (.lload i) = some pc') : hv_I (hv_SW p l e R s m args below meth c Q D vwCl b sa cA nL) Fn pc lb (hv_step hv_cm hv_vk hv_dv hv_ft mc ms rt call (.lload i)) pc' := by
  obtain ⟨⟨hx, hb, hml, hown⟩, hts, hKx, ⟨hRc, hRs, hRf, hRl⟩, hini⟩ := X
  simp only [hv_ck] at hc
  split at hc
  · rename_i k hd
    split at hc
    · rename_i hk
      cases Option.some.inj hc
      subst hk
      exact hv_t_lload hx hb hd
    · cases hc
  · rename_i k hd
    split at hc
    · rename_i hk
      cases Option.some.inj hc
      exact hv_t_lload_n hx hb hd hk
    · cases hc
  · cases hc
theorem hv_k_lstore (X : hv_X p R s m args meth c cc nL own ini D b sa sv cA mc ms) {i : Nat} (hc : hv_ck own ini rt cc lb pc (.lstore i) = some pc') : hv_I (hv_SW p l e R s m args below meth c Q D vwCl b sa cA nL) Fn pc lb (hv_step hv_cm hv_vk hv_dv hv_ft mc ms rt call (.lstore i)) pc' := by
  obtain ⟨⟨hx, hb, hml, hown⟩, hts, hKx, ⟨hRc, hRs, hRf, hRl⟩, hini⟩ := X
  simp only [hv_ck] at hc
  split at hc
  · rename_i k hd
    split at hc
    · rename_i hk
      cases Option.some.inj hc
      subst hk
      exact hv_t_lstore hx hb hd
    · cases hc
  · rename_i k hd
    split at hc
    · rename_i hk
      cases Option.some.inj hc
      exact hv_t_lstore_n hx hb hd hk
    · cases hc
  · cases hc
theorem hv_k_aload (X : hv_X p R s m args meth c cc nL own ini D b sa sv cA mc ms) {i : Nat} (hc : hv_ck own ini rt cc lb pc (.aload i) = some pc') : hv_I (hv_SW p l e R s m args below meth c Q D vwCl b sa cA nL) Fn pc lb (hv_step hv_cm hv_vk hv_dv hv_ft mc ms rt call (.aload i)) pc' := by
  obtain ⟨⟨hx, hb, hml, hown⟩, hts, hKx, ⟨hRc, hRs, hRf, hRl⟩, hini⟩ := X
  simp only [hv_ck] at hc
  split at hc
  · rename_i k hd
    split at hc
    · rename_i hk
      cases Option.some.inj hc
      subst hk
      exact hv_t_aload hx hb hd
    · cases hc
  · rename_i k hd
    split at hc
    · rename_i hk
      cases Option.some.inj hc
      exact hv_t_aload_n hx hb hd hk
    · cases hc
  · cases hc
theorem hv_k_astore (X : hv_X p R s m args meth c cc nL own ini D b sa sv cA mc ms) {i : Nat} (hc : hv_ck own ini rt cc lb pc (.astore i) = some pc') : hv_I (hv_SW p l e R s m args below meth c Q D vwCl b sa cA nL) Fn pc lb (hv_step hv_cm hv_vk hv_dv hv_ft mc ms rt call (.astore i)) pc' := by
  obtain ⟨⟨hx, hb, hml, hown⟩, hts, hKx, ⟨hRc, hRs, hRf, hRl⟩, hini⟩ := X
  simp only [hv_ck] at hc
  split at hc
  · rename_i k hd
    split at hc
    · rename_i hk
      cases Option.some.inj hc
      subst hk
      exact hv_t_astore hx hb hd
    · cases hc
  · rename_i k hd
    split at hc
    · rename_i hk
      cases Option.some.inj hc
      exact hv_t_astore_n hx hb hd hk
    · cases hc
  · cases hc
theorem hv_k_iinc (X : hv_X p R s m args meth c cc nL own ini D b sa sv cA mc ms) {i : Nat} {n : Int} (hc : hv_ck own ini rt cc lb pc (.iinc i n) = some pc') : hv_I (hv_SW p l e R s m args below meth c Q D vwCl b sa cA nL) Fn pc lb (hv_step hv_cm hv_vk hv_dv hv_ft mc ms rt call (.iinc i n)) pc' := by
  obtain ⟨⟨hx, hb, hml, hown⟩, hts, hKx, ⟨hRc, hRs, hRf, hRl⟩, hini⟩ := X
  simp only [hv_ck] at hc
  split at hc
  · rename_i hd
    cases Option.some.inj hc
    exact hv_t_iinc hx hb hd
  · cases hc
theorem hv_k_goto (X : hv_X p R s m args meth c cc nL own ini D b sa sv cA mc ms) {k : Int} (hc : hv_ck own ini rt cc lb pc (.goto k) = some pc') : hv_I (hv_SW p l e R s m args below meth c Q D vwCl b sa cA nL) Fn pc lb (hv_step hv_cm hv_vk hv_dv hv_ft mc ms rt call (.goto k)) pc' := by
  obtain ⟨⟨hx, hb, hml, hown⟩, hts, hKx, ⟨hRc, hRs, hRf, hRl⟩, hini⟩ := X
  simp only [hv_ck] at hc
  split at hc
  · rename_i o hd
    split at hc
    · rename_i hk
      cases Option.some.inj hc
      obtain ⟨tgt, ht, hj⟩ := hv_lab_to (Sf := hv_SW p l e R s m args below meth c Q D vwCl b sa cA nL) hk
      exact hv_t_goto hx hb hd ht hj
    · cases hc
  · cases hc
theorem hv_k_ifnull (X : hv_X p R s m args meth c cc nL own ini D b sa sv cA mc ms) {k : Int} (hc : hv_ck own ini rt cc lb pc (.ifnull k) = some pc') : hv_I (hv_SW p l e R s m args below meth c Q D vwCl b sa cA nL) Fn pc lb (hv_step hv_cm hv_vk hv_dv hv_ft mc ms rt call (.ifnull k)) pc' := by
  obtain ⟨⟨hx, hb, hml, hown⟩, hts, hKx, ⟨hRc, hRs, hRf, hRl⟩, hini⟩ := X
  simp only [hv_ck] at hc
  split at hc
  · rename_i o hd
    split at hc
    · rename_i hk
      cases Option.some.inj hc
      obtain ⟨tgt, ht, hj⟩ := hv_lab_to (Sf := hv_SW p l e R s m args below meth c Q D vwCl b sa cA nL) hk
      exact hv_t_ifnull hx hb hd ht hj
    · cases hc
  · cases hc
theorem hv_k_ifnonnull (X : hv_X p R s m args meth c cc nL own ini D b sa sv cA mc ms) {k : Int} (hc : hv_ck own ini rt cc lb pc (.ifnonnull k) = some pc') : hv_I (hv_SW p l e R s m args below meth c Q D vwCl b sa cA nL) Fn pc lb (hv_step hv_cm hv_vk hv_dv hv_ft mc ms rt call (.ifnonnull k)) pc' := by
  obtain ⟨⟨hx, hb, hml, hown⟩, hts, hKx, ⟨hRc, hRs, hRf, hRl⟩, hini⟩ := X
  simp only [hv_ck] at hc
  split at hc
  · rename_i o hd
    split at hc
    · rename_i hk
      cases Option.some.inj hc
      obtain ⟨tgt, ht, hj⟩ := hv_lab_to (Sf := hv_SW p l e R s m args below meth c Q D vwCl b sa cA nL) hk
      exact hv_t_ifnonnull hx hb hd ht hj
    · cases hc
  · cases hc
theorem hv_k_ifCond (X : hv_X p R s m args meth c cc nL own ini D b sa sv cA mc ms) {op : ClassFile.Cond} {k : Int} (hc : hv_ck own ini rt cc lb pc (.ifCond op k) = some pc') : hv_I (hv_SW p l e R s m args below meth c Q D vwCl b sa cA nL) Fn pc lb (hv_step hv_cm hv_vk hv_dv hv_ft mc ms rt call (.ifCond op k)) pc' := by
  obtain ⟨⟨hx, hb, hml, hown⟩, hts, hKx, ⟨hRc, hRs, hRf, hRl⟩, hini⟩ := X
  simp only [hv_ck] at hc
  split at hc
  · rename_i op2 o hd
    split at hc
    · rename_i hk
      cases Option.some.inj hc
      obtain ⟨hop, hk⟩ := hk
      subst hop
      obtain ⟨tgt, ht, hj⟩ := hv_lab_to (Sf := hv_SW p l e R s m args below meth c Q D vwCl b sa cA nL) hk
      cases op2
      · exact hv_t_if_eq hx hb hd ht hj
      · exact hv_t_if_ne hx hb hd ht hj
      · exact hv_t_if_lt hx hb hd ht hj
      · exact hv_t_if_ge hx hb hd ht hj
      · exact hv_t_if_gt hx hb hd ht hj
      · exact hv_t_if_le hx hb hd ht hj
    · cases hc
  · cases hc
theorem hv_k_if_icmp (X : hv_X p R s m args meth c cc nL own ini D b sa sv cA mc ms) {op : ClassFile.Cond} {k : Int} (hc : hv_ck own ini rt cc lb pc (.if_icmp op k) = some pc') : hv_I (hv_SW p l e R s m args below meth c Q D vwCl b sa cA nL) Fn pc lb (hv_step hv_cm hv_vk hv_dv hv_ft mc ms rt call (.if_icmp op k)) pc' := by
  obtain ⟨⟨hx, hb, hml, hown⟩, hts, hKx, ⟨hRc, hRs, hRf, hRl⟩, hini⟩ := X
  simp only [hv_ck] at hc
  split at hc
  · rename_i op2 o hd
    split at hc
    · rename_i hk
      cases Option.some.inj hc
      obtain ⟨hop, hk⟩ := hk
      subst hop
      obtain ⟨tgt, ht, hj⟩ := hv_lab_to (Sf := hv_SW p l e R s m args below meth c Q D vwCl b sa cA nL) hk
      cases op2
      · exact hv_t_icmp_eq hx hb hd ht hj
      · exact hv_t_icmp_ne hx hb hd ht hj
      · exact hv_t_icmp_lt hx hb hd ht hj
      · exact hv_t_icmp_ge hx hb hd ht hj
      · exact hv_t_icmp_gt hx hb hd ht hj
      · exact hv_t_icmp_le hx hb hd ht hj
    · cases hc
  · cases hc
theorem hv_k_tableswitch (X : hv_X p R s m args meth c cc nL own ini D b sa sv cA mc ms) {d lo hi : Int} {ks : Array Int} (hc : hv_ck own ini rt cc lb pc (.tableswitch d lo hi ks) = some pc') : hv_I (hv_SW p l e R s m args below meth c Q D vwCl b sa cA nL) Fn pc lb (hv_step hv_cm hv_vk hv_dv hv_ft mc ms rt call (.tableswitch d lo hi ks)) pc' := by
  obtain ⟨⟨hx, hb, hml, hown⟩, hts, hKx, ⟨hRc, hRs, hRf, hRl⟩, hini⟩ := X
  simp only [hv_ck] at hc
  split at hc
  · rename_i d2 lo2 hi2 os len hd
    split at hc
    · rename_i hk
      cases Option.some.inj hc
      obtain ⟨h1, h2, h3, h4, h5⟩ := hk
      subst h1
      subst h2
      obtain ⟨td, ht, hj⟩ := hv_lab_to (Sf := hv_SW p l e R s m args below meth c Q D vwCl b sa cA nL) h3
      refine hv_t_tableswitch hx hb hd ht hj (fun i k hik => ?_)
      have hi := (Array.getElem?_eq_some_iff.mp hik).1
      have h6 := List.all_eq_true.mp h5 i (List.mem_range.mpr hi)
      obtain ⟨off, ho⟩ : ∃ off, os[i]? = some off := ⟨os[i]'(by omega), Array.getElem?_eq_getElem (by omega)⟩
      have e1 : ks.getD i 0 = k := by rw [Array.getD_eq_getD_getElem?, hik]; rfl
      have e2 : os.getD i 0 = off := by rw [Array.getD_eq_getD_getElem?, ho]; rfl
      rw [e1, e2] at h6
      obtain ⟨tgt, ht2, hj2⟩ := hv_lab_to (Sf := hv_SW p l e R s m args below meth c Q D vwCl b sa cA nL) h6
      exact ⟨off, tgt, ho, ht2, hj2⟩
    · cases hc
  · cases hc
theorem hv_k_getfield (X : hv_X p R s m args meth c cc nL own ini D b sa sv cA mc ms) {n : Nat} (hc : hv_ck own ini rt cc lb pc (.getfield n) = some pc') : hv_I (hv_SW p l e R s m args below meth c Q D vwCl b sa cA nL) Fn pc lb (hv_step hv_cm hv_vk hv_dv hv_ft mc ms rt call (.getfield n)) pc' := by
  obtain ⟨⟨hx, hb, hml, hown⟩, hts, hKx, ⟨hRc, hRs, hRf, hRl⟩, hini⟩ := X
  simp only [hv_ck] at hc
  split at hc
  · rename_i x hd
    split at hc
    · rename_i hk
      cases Option.some.inj hc
      rcases hk with hk | hk
      · obtain ⟨q, hq⟩ := hv_any3_mem hk
        have h9 := List.all_eq_true.mp hv_FT_ok _ hq
        simp only [Bool.and_eq_true, decide_eq_true_eq] at h9
        obtain ⟨⟨h7, hci⟩, hkn⟩ := h9
        exact hv_t_getfield hx hb hts (hv_uw hci) hown hKx.1 (hv_cl hci) hkn (hts _ (hv_inG h7 rfl)) hd
      · obtain ⟨q, hq⟩ := hv_any3_mem hk
        have h9 := List.all_eq_true.mp hv_FN_ok _ hq
        simp only [Bool.and_eq_true, decide_eq_true_eq] at h9
        obtain ⟨⟨h7, hci⟩, hkn⟩ := h9
        exact hv_t_getfieldN hx hb hts (hv_uw hci) hown hKx.1 (hv_cl hci) hkn (va_Nw.use rfl (hKx.2.1 _ (hv_inT_mem h7) rfl)) hd
    · cases hc
  · cases hc
theorem hv_k_putfield (X : hv_X p R s m args meth c cc nL own ini D b sa sv cA mc ms) {n : Nat} (hc : hv_ck own ini rt cc lb pc (.putfield n) = some pc') : hv_I (hv_SW p l e R s m args below meth c Q D vwCl b sa cA nL) Fn pc lb (hv_step hv_cm hv_vk hv_dv hv_ft mc ms rt call (.putfield n)) pc' := by
  obtain ⟨⟨hx, hb, hml, hown⟩, hts, hKx, ⟨hRc, hRs, hRf, hRl⟩, hini⟩ := X
  simp only [hv_ck] at hc
  split at hc
  · rename_i x hd
    split at hc
    · rename_i hk
      cases Option.some.inj hc
      rcases hk with ⟨hk, hf⟩ | ⟨hk, hf⟩
      · obtain ⟨q, hq⟩ := hv_any3_mem hk
        have h9 := List.all_eq_true.mp hv_FT_ok _ hq
        simp only [Bool.and_eq_true, decide_eq_true_eq] at h9
        obtain ⟨⟨h7, hci⟩, hkn⟩ := h9
        rcases hf with hf | ⟨hf1, hf2⟩
        · exact hv_t_putfield hx hb hts (hv_uw hci) hown hKx.1 (hv_cl hci) hkn (hv_ty hci) (hv_nm hci) (hts _ (hv_inG h7 rfl)) hf hd
        · cases hfin : (hv_T (n / 100) (n % 100)).2.2.2 with
          | false => exact hv_t_putfield hx hb hts (hv_uw hci) hown hKx.1 (hv_cl hci) hkn (hv_ty hci) (hv_nm hci) (hts _ (hv_inG h7 rfl)) hfin hd
          | true => exact hv_t_putfieldF hx hb hts (hv_uw hci) hown hKx.1 (hv_cl hci) hkn (hv_ty hci) (hv_nm hci) (hts _ (hv_inG h7 rfl)) hfin (hini hf1) hf2 hd
      · obtain ⟨q, hq⟩ := hv_any3_mem hk
        have h9 := List.all_eq_true.mp hv_FN_ok _ hq
        simp only [Bool.and_eq_true, decide_eq_true_eq] at h9
        obtain ⟨⟨h7, hci⟩, hkn⟩ := h9
        exact hv_t_putfieldN hx hb hts (hv_uw hci) hown hKx.1 (hv_cl hci) hkn (hv_ty hci) (hv_nm hci) (va_Nw.use rfl (hKx.2.1 _ (hv_inT_mem h7) rfl)) hf hd
    · cases hc
  · cases hc
theorem hv_k_new (X : hv_X p R s m args meth c cc nL own ini D b sa sv cA mc ms) {ci : Nat} (hc : hv_ck own ini rt cc lb pc (.new ci) = some pc') : hv_I (hv_SW p l e R s m args below meth c Q D vwCl b sa cA nL) Fn pc lb (hv_step hv_cm hv_vk hv_dv hv_ft mc ms rt call (.new ci)) pc' := by
  obtain ⟨⟨hx, hb, hml, hown⟩, hts, hKx, ⟨hRc, hRs, hRf, hRl⟩, hini⟩ := X
  simp only [hv_ck] at hc
  split at hc
  · rename_i x hd
    split at hc
    · rename_i hk
      cases Option.some.inj hc
      obtain ⟨q, hq⟩ := hv_any3_mem hk
      have h9 := List.all_eq_true.mp hv_CT_ok _ hq
      simp only [Bool.and_eq_true, decide_eq_true_eq] at h9
      obtain ⟨h7, hci⟩ := h9
      have h8 := List.all_eq_true.mp hv_XI_ok ci (List.mem_range.mpr hci)
      simp only [Bool.and_eq_true] at h8
      exact hv_t_new hx hb hts (hv_uw hci) hown hKx.1 (hv_cl hci) (hv_ty hci) (hv_dv_len hci) (hv_dv_at hci) (hts _ (hv_inG h7 rfl)) (hts _ (hv_inG h8.1 rfl)) (hts _ (hv_inG h8.2 rfl)) hRc hRs hd
    · cases hc
  · cases hc
theorem hv_k_newarray (X : hv_X p R s m args meth c cc nL own ini D b sa sv cA mc ms) {ty : ArrayType} (hc : hv_ck own ini rt cc lb pc (.newarray ty) = some pc') : hv_I (hv_SW p l e R s m args below meth c Q D vwCl b sa cA nL) Fn pc lb (hv_step hv_cm hv_vk hv_dv hv_ft mc ms rt call (.newarray ty)) pc' := by
  obtain ⟨⟨hx, hb, hml, hown⟩, hts, hKx, ⟨hRc, hRs, hRf, hRl⟩, hini⟩ := X
  simp only [hv_ck] at hc
  split at hc
  · rename_i hd
    cases Option.some.inj hc
    obtain ⟨hd, hty⟩ := hd
    refine hv_t_newarray hx hb hKx.1 (hts _ ?_) hRc hRs hd
    rcases hty with rfl | rfl | rfl | rfl
    · exact hv_inG (k := hv_aI) (by decide +kernel) rfl
    · exact hv_inG (k := hv_aB) (by decide +kernel) rfl
    · exact hv_inG (k := hv_aZ) (by decide +kernel) rfl
    · exact hv_inG (k := hv_aJ) (by decide +kernel) rfl
  · cases hc
theorem hv_k_anewarray (X : hv_X p R s m args meth c cc nL own ini D b sa sv cA mc ms) {t : Nat} (hc : hv_ck own ini rt cc lb pc (.anewarray t) = some pc') : hv_I (hv_SW p l e R s m args below meth c Q D vwCl b sa cA nL) Fn pc lb (hv_step hv_cm hv_vk hv_dv hv_ft mc ms rt call (.anewarray t)) pc' := by
  obtain ⟨⟨hx, hb, hml, hown⟩, hts, hKx, ⟨hRc, hRs, hRf, hRl⟩, hini⟩ := X
  simp only [hv_ck] at hc
  split at hc
  · rename_i x hd
    split at hc
    · rename_i hk
      cases Option.some.inj hc
      obtain ⟨q, hq⟩ := hv_any3_mem hk
      have h9 := List.all_eq_true.mp hv_AT_ok _ hq
      simp only [Bool.or_eq_true, Bool.and_eq_true, beq_iff_eq] at h9
      rcases h9 with ⟨ht, h7⟩ | ⟨ht, h7⟩
      · subst ht
        exact hv_t_anewarray hx hb hKx.1 hown (hts _ (hv_inG h7 rfl)) (va_AO.use hKx.2.2.1) rfl hRc hRs hd
      · subst ht
        exact hv_t_anewarray hx hb hKx.1 hown (hts _ (hv_inG h7 rfl)) (va_AO.use hKx.2.2.2.1) rfl hRc hRs hd
    · cases hc
  · cases hc
theorem hv_k_invokespecial (X : hv_X p R s m args meth c cc nL own ini D b sa sv cA mc ms) {k : Nat} (hc : hv_ck own ini rt cc lb pc (.invokespecial k) = some pc') : hv_I (hv_SW p l e R s m args below meth c Q D vwCl b sa cA nL) Fn pc lb (hv_step hv_cm hv_vk hv_dv hv_ft mc ms rt call (.invokespecial k)) pc' := by
  obtain ⟨⟨hx, hb, hml, hown⟩, hts, hKx, ⟨hRc, hRs, hRf, hRl⟩, hini⟩ := X
  simp only [hv_ck] at hc
  split at hc
  · rename_i x hd
    split at hc
    · rename_i hk
      cases Option.some.inj hc
      obtain ⟨q, hq⟩ := hv_any2_mem hk
      exact hv_t_objInit hx hb hml hown (hts _ (hv_inG (List.all_eq_true.mp hv_OT_ok _ hq) rfl)) (hts _ (hv_inG (k := hv_oI) (by decide +kernel) rfl)) (hts _ (List.mem_filter.mpr ⟨hv_oC_in, rfl⟩)) hRf hRl hd
    · cases hc
  · cases hc
theorem hv_k_invokestatic (X : hv_X p R s m args meth c cc nL own ini D b sa sv cA mc ms) {k : Nat} (hc : hv_ck own ini rt cc lb pc (.invokestatic k) = some pc') : hv_I (hv_SW p l e R s m args below meth c Q D vwCl b sa cA nL) Fn pc lb (hv_step hv_cm hv_vk hv_dv hv_ft mc ms rt call (.invokestatic k)) pc' := by
  obtain ⟨⟨hx, hb, hml, hown⟩, hts, hKx, ⟨hRc, hRs, hRf, hRl⟩, hini⟩ := X
  simp only [hv_ck] at hc
  split at hc
  · rename_i x hd
    split at hc
    · rename_i hk
      cases Option.some.inj hc
      obtain ⟨q, hq⟩ := hv_any2_mem hk
      exact hv_t_arraycopy hx hb hml hown (hts _ (hv_inG (List.all_eq_true.mp hv_YT_ok _ hq) rfl)) (hts _ (hv_inG (k := hv_yN) (by decide +kernel) rfl)) (hts _ (hv_inG (k := hv_yS) (by decide +kernel) rfl)) (hts _ (hv_inG (k := hv_yI) (by decide +kernel) rfl)) hKx.1 hRf hRl hd
    · cases hc
  · cases hc
theorem hv_k_swap (X : hv_X p R s m args meth c cc nL own ini D b sa sv cA mc ms) (hc : hv_ck own ini rt cc lb pc .swap = some pc') : hv_I (hv_SW p l e R s m args below meth c Q D vwCl b sa cA nL) Fn pc lb (hv_step hv_cm hv_vk hv_dv hv_ft mc ms rt call .swap) pc' := by
  obtain ⟨⟨hx, hb, hml, hown⟩, hts, hKx, ⟨hRc, hRs, hRf, hRl⟩, hini⟩ := X
  simp only [hv_ck] at hc
  split at hc
  · rename_i hd
    cases Option.some.inj hc
    obtain ⟨ho, hd⟩ := hd
    subst ho
    exact hv_t_clone hx hb hml hown (hts _ (hv_inG (k := hv_c1) (by decide +kernel) rfl)) (hts _ (hv_inG (k := hv_c2) (by decide +kernel) rfl)) (hts _ (hv_inG (k := hv_c3) (by decide +kernel) rfl)) (hts _ (hv_inG (k := hv_c4) (by decide +kernel) rfl)) (hts _ (hv_inG (k := hv_c5) (by decide +kernel) rfl)) (va_Nw.use rfl (hKx.2.1 _ (hv_inT_mem (k := hv_c6) (by decide +kernel)) rfl)) hKx.1 hRf hRl hRc hRs hd
  · cases hc
theorem hv_k_checkcast (X : hv_X p R s m args meth c cc nL own ini D b sa sv cA mc ms) {k : Nat} (hc : hv_ck own ini rt cc lb pc (.checkcast k) = some pc') : hv_I (hv_SW p l e R s m args below meth c Q D vwCl b sa cA nL) Fn pc lb (hv_step hv_cm hv_vk hv_dv hv_ft mc ms rt call (.checkcast k)) pc' := by
  obtain ⟨⟨hx, hb, hml, hown⟩, hts, hKx, ⟨hRc, hRs, hRf, hRl⟩, hini⟩ := X
  simp only [hv_ck] at hc
  split at hc
  · rename_i hd
    cases Option.some.inj hc
    obtain ⟨ho, hd⟩ := hd
    subst ho
    exact hv_t_cast hx hb hown (hts _ (hv_inG (k := hv_c7) (by decide +kernel) rfl)) hKx.1 hd
  · cases hc
theorem hv_k_invokeinterface (X : hv_X p R s m args meth c cc nL own ini D b sa sv cA mc ms) (XC : hv_XC p l e R s m args below meth c Q cc nL own D b sa cA call) {j n : Nat} (hc : hv_ck own ini rt cc lb pc (.invokeinterface j n) = some pc') : hv_I (hv_SW p l e R s m args below meth c Q D vwCl b sa cA nL) Fn pc lb (hv_step hv_cm hv_vk hv_dv hv_ft mc ms rt call (.invokeinterface j n)) pc' := by
  obtain ⟨⟨hx, hb, hml, hown⟩, hts, hKx, ⟨hRc, hRs, hRf, hRl⟩, hini⟩ := X
  simp only [hv_ck] at hc
  split at hc
  · rename_i hd
    cases Option.some.inj hc
    exact hv_t_call hx hb hRc hRs (XC pc j n hd)
  · cases hc
theorem hv_k_areturn (X : hv_X p R s m args meth c cc nL own ini D b sa sv cA mc ms) (XE : hv_XE s args below meth Q D b sa cA Fn mc ms rt) (hc : hv_ck own ini rt cc lb pc .areturn = some pc') : hv_I (hv_SW p l e R s m args below meth c Q D vwCl b sa cA nL) Fn pc lb (hv_step hv_cm hv_vk hv_dv hv_ft mc ms rt call .areturn) pc' := by
  obtain ⟨⟨hx, hb, hml, hown⟩, hts, hKx, ⟨hRc, hRs, hRf, hRl⟩, hini⟩ := X
  simp only [hv_ck] at hc
  obtain ⟨Qc, free, hQ, hr0, hlk, hfree, hq⟩ := XE
  split at hc
  · rename_i hd
    split at hc
    · cases Option.some.inj hc
      exact hv_t_areturn hx hb hQ hr0 (Or.inl ⟨_, rfl⟩) hlk hfree hq hd
    · cases Option.some.inj hc
      exact hv_t_areturn hx hb hQ hr0 (Or.inr ⟨_, rfl⟩) hlk hfree hq hd
    · cases hc
  · cases hc
theorem hv_k_return_ (X : hv_X p R s m args meth c cc nL own ini D b sa sv cA mc ms) (XE : hv_XE s args below meth Q D b sa cA Fn mc ms rt) (hc : hv_ck own ini rt cc lb pc .return_ = some pc') : hv_I (hv_SW p l e R s m args below meth c Q D vwCl b sa cA nL) Fn pc lb (hv_step hv_cm hv_vk hv_dv hv_ft mc ms rt call .return_) pc' := by
  obtain ⟨⟨hx, hb, hml, hown⟩, hts, hKx, ⟨hRc, hRs, hRf, hRl⟩, hini⟩ := X
  simp only [hv_ck] at hc
  obtain ⟨Qc, free, hQ, hr0, hlk, hfree, hq⟩ := XE
  split at hc
  · rename_i hd
    cases Option.some.inj hc
    obtain ⟨hd, hrt⟩ := hd
    subst hrt
    exact hv_t_return hx hb hQ hr0 hlk hfree hq hd
  · cases hc
theorem hv_k_aconst_null (X : hv_X p R s m args meth c cc nL own ini D b sa sv cA mc ms) (hc : hv_ck own ini rt cc lb pc .aconst_null = some pc') : hv_I (hv_SW p l e R s m args below meth c Q D vwCl b sa cA nL) Fn pc lb (hv_step hv_cm hv_vk hv_dv hv_ft mc ms rt call .aconst_null) pc' := by
  obtain ⟨⟨hx, hb, hml, hown⟩, hts, hKx, ⟨hRc, hRs, hRf, hRl⟩, hini⟩ := X
  simp only [hv_ck] at hc
  split at hc
  · rename_i hd
    cases Option.some.inj hc
    exact hv_t_aconst_null hx hb hd
  · cases hc
theorem hv_k_iadd (X : hv_X p R s m args meth c cc nL own ini D b sa sv cA mc ms) (hc : hv_ck own ini rt cc lb pc .iadd = some pc') : hv_I (hv_SW p l e R s m args below meth c Q D vwCl b sa cA nL) Fn pc lb (hv_step hv_cm hv_vk hv_dv hv_ft mc ms rt call .iadd) pc' := by
  obtain ⟨⟨hx, hb, hml, hown⟩, hts, hKx, ⟨hRc, hRs, hRf, hRl⟩, hini⟩ := X
  simp only [hv_ck] at hc
  split at hc
  · rename_i hd
    cases Option.some.inj hc
    exact hv_t_iadd hx hb hd
  · cases hc
theorem hv_k_isub (X : hv_X p R s m args meth c cc nL own ini D b sa sv cA mc ms) (hc : hv_ck own ini rt cc lb pc .isub = some pc') : hv_I (hv_SW p l e R s m args below meth c Q D vwCl b sa cA nL) Fn pc lb (hv_step hv_cm hv_vk hv_dv hv_ft mc ms rt call .isub) pc' := by
  obtain ⟨⟨hx, hb, hml, hown⟩, hts, hKx, ⟨hRc, hRs, hRf, hRl⟩, hini⟩ := X
  simp only [hv_ck] at hc
  split at hc
  · rename_i hd
    cases Option.some.inj hc
    exact hv_t_isub hx hb hd
  · cases hc
theorem hv_k_imul (X : hv_X p R s m args meth c cc nL own ini D b sa sv cA mc ms) (hc : hv_ck own ini rt cc lb pc .imul = some pc') : hv_I (hv_SW p l e R s m args below meth c Q D vwCl b sa cA nL) Fn pc lb (hv_step hv_cm hv_vk hv_dv hv_ft mc ms rt call .imul) pc' := by
  obtain ⟨⟨hx, hb, hml, hown⟩, hts, hKx, ⟨hRc, hRs, hRf, hRl⟩, hini⟩ := X
  simp only [hv_ck] at hc
  split at hc
  · rename_i hd
    cases Option.some.inj hc
    exact hv_t_imul hx hb hd
  · cases hc
theorem hv_k_iand (X : hv_X p R s m args meth c cc nL own ini D b sa sv cA mc ms) (hc : hv_ck own ini rt cc lb pc .iand = some pc') : hv_I (hv_SW p l e R s m args below meth c Q D vwCl b sa cA nL) Fn pc lb (hv_step hv_cm hv_vk hv_dv hv_ft mc ms rt call .iand) pc' := by
  obtain ⟨⟨hx, hb, hml, hown⟩, hts, hKx, ⟨hRc, hRs, hRf, hRl⟩, hini⟩ := X
  simp only [hv_ck] at hc
  split at hc
  · rename_i hd
    cases Option.some.inj hc
    exact hv_t_iand hx hb hd
  · cases hc
theorem hv_k_ior (X : hv_X p R s m args meth c cc nL own ini D b sa sv cA mc ms) (hc : hv_ck own ini rt cc lb pc .ior = some pc') : hv_I (hv_SW p l e R s m args below meth c Q D vwCl b sa cA nL) Fn pc lb (hv_step hv_cm hv_vk hv_dv hv_ft mc ms rt call .ior) pc' := by
  obtain ⟨⟨hx, hb, hml, hown⟩, hts, hKx, ⟨hRc, hRs, hRf, hRl⟩, hini⟩ := X
  simp only [hv_ck] at hc
  split at hc
  · rename_i hd
    cases Option.some.inj hc
    exact hv_t_ior hx hb hd
  · cases hc
theorem hv_k_ishl (X : hv_X p R s m args meth c cc nL own ini D b sa sv cA mc ms) (hc : hv_ck own ini rt cc lb pc .ishl = some pc') : hv_I (hv_SW p l e R s m args below meth c Q D vwCl b sa cA nL) Fn pc lb (hv_step hv_cm hv_vk hv_dv hv_ft mc ms rt call .ishl) pc' := by
  obtain ⟨⟨hx, hb, hml, hown⟩, hts, hKx, ⟨hRc, hRs, hRf, hRl⟩, hini⟩ := X
  simp only [hv_ck] at hc
  split at hc
  · rename_i hd
    cases Option.some.inj hc
    exact hv_t_ishl hx hb hd
  · cases hc
theorem hv_k_ishr (X : hv_X p R s m args meth c cc nL own ini D b sa sv cA mc ms) (hc : hv_ck own ini rt cc lb pc .ishr = some pc') : hv_I (hv_SW p l e R s m args below meth c Q D vwCl b sa cA nL) Fn pc lb (hv_step hv_cm hv_vk hv_dv hv_ft mc ms rt call .ishr) pc' := by
  obtain ⟨⟨hx, hb, hml, hown⟩, hts, hKx, ⟨hRc, hRs, hRf, hRl⟩, hini⟩ := X
  simp only [hv_ck] at hc
  split at hc
  · rename_i hd
    cases Option.some.inj hc
    exact hv_t_ishr hx hb hd
  · cases hc
theorem hv_k_iushr (X : hv_X p R s m args meth c cc nL own ini D b sa sv cA mc ms) (hc : hv_ck own ini rt cc lb pc .iushr = some pc') : hv_I (hv_SW p l e R s m args below meth c Q D vwCl b sa cA nL) Fn pc lb (hv_step hv_cm hv_vk hv_dv hv_ft mc ms rt call .iushr) pc' := by
  obtain ⟨⟨hx, hb, hml, hown⟩, hts, hKx, ⟨hRc, hRs, hRf, hRl⟩, hini⟩ := X
  simp only [hv_ck] at hc
  split at hc
  · rename_i hd
    cases Option.some.inj hc
    exact hv_t_iushr hx hb hd
  · cases hc
theorem hv_k_idiv (X : hv_X p R s m args meth c cc nL own ini D b sa sv cA mc ms) (hc : hv_ck own ini rt cc lb pc .idiv = some pc') : hv_I (hv_SW p l e R s m args below meth c Q D vwCl b sa cA nL) Fn pc lb (hv_step hv_cm hv_vk hv_dv hv_ft mc ms rt call .idiv) pc' := by
  obtain ⟨⟨hx, hb, hml, hown⟩, hts, hKx, ⟨hRc, hRs, hRf, hRl⟩, hini⟩ := X
  simp only [hv_ck] at hc
  split at hc
  · rename_i hd
    cases Option.some.inj hc
    exact hv_t_idiv hx hb hd
  · cases hc
theorem hv_k_irem (X : hv_X p R s m args meth c cc nL own ini D b sa sv cA mc ms) (hc : hv_ck own ini rt cc lb pc .irem = some pc') : hv_I (hv_SW p l e R s m args below meth c Q D vwCl b sa cA nL) Fn pc lb (hv_step hv_cm hv_vk hv_dv hv_ft mc ms rt call .irem) pc' := by
  obtain ⟨⟨hx, hb, hml, hown⟩, hts, hKx, ⟨hRc, hRs, hRf, hRl⟩, hini⟩ := X
  simp only [hv_ck] at hc
  split at hc
  · rename_i hd
    cases Option.some.inj hc
    exact hv_t_irem hx hb hd
  · cases hc
theorem hv_k_ineg (X : hv_X p R s m args meth c cc nL own ini D b sa sv cA mc ms) (hc : hv_ck own ini rt cc lb pc .ineg = some pc') : hv_I (hv_SW p l e R s m args below meth c Q D vwCl b sa cA nL) Fn pc lb (hv_step hv_cm hv_vk hv_dv hv_ft mc ms rt call .ineg) pc' := by
  obtain ⟨⟨hx, hb, hml, hown⟩, hts, hKx, ⟨hRc, hRs, hRf, hRl⟩, hini⟩ := X
  simp only [hv_ck] at hc
  split at hc
  · rename_i hd
    cases Option.some.inj hc
    exact hv_t_ineg hx hb hd
  · cases hc
theorem hv_k_ladd (X : hv_X p R s m args meth c cc nL own ini D b sa sv cA mc ms) (hc : hv_ck own ini rt cc lb pc .ladd = some pc') : hv_I (hv_SW p l e R s m args below meth c Q D vwCl b sa cA nL) Fn pc lb (hv_step hv_cm hv_vk hv_dv hv_ft mc ms rt call .ladd) pc' := by
  obtain ⟨⟨hx, hb, hml, hown⟩, hts, hKx, ⟨hRc, hRs, hRf, hRl⟩, hini⟩ := X
  simp only [hv_ck] at hc
  split at hc
  · rename_i hd
    cases Option.some.inj hc
    exact hv_t_ladd hx hb hd
  · cases hc
theorem hv_k_lsub (X : hv_X p R s m args meth c cc nL own ini D b sa sv cA mc ms) (hc : hv_ck own ini rt cc lb pc .lsub = some pc') : hv_I (hv_SW p l e R s m args below meth c Q D vwCl b sa cA nL) Fn pc lb (hv_step hv_cm hv_vk hv_dv hv_ft mc ms rt call .lsub) pc' := by
  obtain ⟨⟨hx, hb, hml, hown⟩, hts, hKx, ⟨hRc, hRs, hRf, hRl⟩, hini⟩ := X
  simp only [hv_ck] at hc
  split at hc
  · rename_i hd
    cases Option.some.inj hc
    exact hv_t_lsub hx hb hd
  · cases hc
theorem hv_k_lmul (X : hv_X p R s m args meth c cc nL own ini D b sa sv cA mc ms) (hc : hv_ck own ini rt cc lb pc .lmul = some pc') : hv_I (hv_SW p l e R s m args below meth c Q D vwCl b sa cA nL) Fn pc lb (hv_step hv_cm hv_vk hv_dv hv_ft mc ms rt call .lmul) pc' := by
  obtain ⟨⟨hx, hb, hml, hown⟩, hts, hKx, ⟨hRc, hRs, hRf, hRl⟩, hini⟩ := X
  simp only [hv_ck] at hc
  split at hc
  · rename_i hd
    cases Option.some.inj hc
    exact hv_t_lmul hx hb hd
  · cases hc
theorem hv_k_ldiv (X : hv_X p R s m args meth c cc nL own ini D b sa sv cA mc ms) (hc : hv_ck own ini rt cc lb pc .ldiv = some pc') : hv_I (hv_SW p l e R s m args below meth c Q D vwCl b sa cA nL) Fn pc lb (hv_step hv_cm hv_vk hv_dv hv_ft mc ms rt call .ldiv) pc' := by
  obtain ⟨⟨hx, hb, hml, hown⟩, hts, hKx, ⟨hRc, hRs, hRf, hRl⟩, hini⟩ := X
  simp only [hv_ck] at hc
  split at hc
  · rename_i hd
    cases Option.some.inj hc
    exact hv_t_ldiv hx hb hd
  · cases hc
theorem hv_k_lrem (X : hv_X p R s m args meth c cc nL own ini D b sa sv cA mc ms) (hc : hv_ck own ini rt cc lb pc .lrem = some pc') : hv_I (hv_SW p l e R s m args below meth c Q D vwCl b sa cA nL) Fn pc lb (hv_step hv_cm hv_vk hv_dv hv_ft mc ms rt call .lrem) pc' := by
  obtain ⟨⟨hx, hb, hml, hown⟩, hts, hKx, ⟨hRc, hRs, hRf, hRl⟩, hini⟩ := X
  simp only [hv_ck] at hc
  split at hc
  · rename_i hd
    cases Option.some.inj hc
    exact hv_t_lrem hx hb hd
  · cases hc
theorem hv_k_lcmp (X : hv_X p R s m args meth c cc nL own ini D b sa sv cA mc ms) (hc : hv_ck own ini rt cc lb pc .lcmp = some pc') : hv_I (hv_SW p l e R s m args below meth c Q D vwCl b sa cA nL) Fn pc lb (hv_step hv_cm hv_vk hv_dv hv_ft mc ms rt call .lcmp) pc' := by
  obtain ⟨⟨hx, hb, hml, hown⟩, hts, hKx, ⟨hRc, hRs, hRf, hRl⟩, hini⟩ := X
  simp only [hv_ck] at hc
  split at hc
  · rename_i hd
    cases Option.some.inj hc
    exact hv_t_lcmp hx hb hd
  · cases hc
theorem hv_k_i2l (X : hv_X p R s m args meth c cc nL own ini D b sa sv cA mc ms) (hc : hv_ck own ini rt cc lb pc .i2l = some pc') : hv_I (hv_SW p l e R s m args below meth c Q D vwCl b sa cA nL) Fn pc lb (hv_step hv_cm hv_vk hv_dv hv_ft mc ms rt call .i2l) pc' := by
  obtain ⟨⟨hx, hb, hml, hown⟩, hts, hKx, ⟨hRc, hRs, hRf, hRl⟩, hini⟩ := X
  simp only [hv_ck] at hc
  split at hc
  · rename_i hd
    cases Option.some.inj hc
    exact hv_t_i2l hx hb hd
  · cases hc
theorem hv_k_l2i (X : hv_X p R s m args meth c cc nL own ini D b sa sv cA mc ms) (hc : hv_ck own ini rt cc lb pc .l2i = some pc') : hv_I (hv_SW p l e R s m args below meth c Q D vwCl b sa cA nL) Fn pc lb (hv_step hv_cm hv_vk hv_dv hv_ft mc ms rt call .l2i) pc' := by
  obtain ⟨⟨hx, hb, hml, hown⟩, hts, hKx, ⟨hRc, hRs, hRf, hRl⟩, hini⟩ := X
  simp only [hv_ck] at hc
  split at hc
  · rename_i hd
    cases Option.some.inj hc
    exact hv_t_l2i hx hb hd
  · cases hc
theorem hv_k_i2b (X : hv_X p R s m args meth c cc nL own ini D b sa sv cA mc ms) (hc : hv_ck own ini rt cc lb pc .i2b = some pc') : hv_I (hv_SW p l e R s m args below meth c Q D vwCl b sa cA nL) Fn pc lb (hv_step hv_cm hv_vk hv_dv hv_ft mc ms rt call .i2b) pc' := by
  obtain ⟨⟨hx, hb, hml, hown⟩, hts, hKx, ⟨hRc, hRs, hRf, hRl⟩, hini⟩ := X
  simp only [hv_ck] at hc
  split at hc
  · rename_i hd
    cases Option.some.inj hc
    exact hv_t_i2b hx hb hd
  · cases hc
theorem hv_k_dup (X : hv_X p R s m args meth c cc nL own ini D b sa sv cA mc ms) (hc : hv_ck own ini rt cc lb pc .dup = some pc') : hv_I (hv_SW p l e R s m args below meth c Q D vwCl b sa cA nL) Fn pc lb (hv_step hv_cm hv_vk hv_dv hv_ft mc ms rt call .dup) pc' := by
  obtain ⟨⟨hx, hb, hml, hown⟩, hts, hKx, ⟨hRc, hRs, hRf, hRl⟩, hini⟩ := X
  simp only [hv_ck] at hc
  split at hc
  · rename_i hd
    cases Option.some.inj hc
    exact hv_t_dup hx hb hd
  · cases hc
theorem hv_k_dup2 (X : hv_X p R s m args meth c cc nL own ini D b sa sv cA mc ms) (hc : hv_ck own ini rt cc lb pc .dup2 = some pc') : hv_I (hv_SW p l e R s m args below meth c Q D vwCl b sa cA nL) Fn pc lb (hv_step hv_cm hv_vk hv_dv hv_ft mc ms rt call .dup2) pc' := by
  obtain ⟨⟨hx, hb, hml, hown⟩, hts, hKx, ⟨hRc, hRs, hRf, hRl⟩, hini⟩ := X
  simp only [hv_ck] at hc
  split at hc
  · rename_i hd
    cases Option.some.inj hc
    exact hv_t_dup2 hx hb hd
  · cases hc
theorem hv_k_pop (X : hv_X p R s m args meth c cc nL own ini D b sa sv cA mc ms) (hc : hv_ck own ini rt cc lb pc .pop = some pc') : hv_I (hv_SW p l e R s m args below meth c Q D vwCl b sa cA nL) Fn pc lb (hv_step hv_cm hv_vk hv_dv hv_ft mc ms rt call .pop) pc' := by
  obtain ⟨⟨hx, hb, hml, hown⟩, hts, hKx, ⟨hRc, hRs, hRf, hRl⟩, hini⟩ := X
  simp only [hv_ck] at hc
  split at hc
  · rename_i hd
    cases Option.some.inj hc
    exact hv_t_pop hx hb hd
  · cases hc
theorem hv_k_iaload (X : hv_X p R s m args meth c cc nL own ini D b sa sv cA mc ms) (hc : hv_ck own ini rt cc lb pc .iaload = some pc') : hv_I (hv_SW p l e R s m args below meth c Q D vwCl b sa cA nL) Fn pc lb (hv_step hv_cm hv_vk hv_dv hv_ft mc ms rt call .iaload) pc' := by
  obtain ⟨⟨hx, hb, hml, hown⟩, hts, hKx, ⟨hRc, hRs, hRf, hRl⟩, hini⟩ := X
  simp only [hv_ck] at hc
  split at hc
  · rename_i hd
    cases Option.some.inj hc
    exact hv_t_iaload hx hb hKx.1 hd
  · cases hc
theorem hv_k_baload (X : hv_X p R s m args meth c cc nL own ini D b sa sv cA mc ms) (hc : hv_ck own ini rt cc lb pc .baload = some pc') : hv_I (hv_SW p l e R s m args below meth c Q D vwCl b sa cA nL) Fn pc lb (hv_step hv_cm hv_vk hv_dv hv_ft mc ms rt call .baload) pc' := by
  obtain ⟨⟨hx, hb, hml, hown⟩, hts, hKx, ⟨hRc, hRs, hRf, hRl⟩, hini⟩ := X
  simp only [hv_ck] at hc
  split at hc
  · rename_i hd
    cases Option.some.inj hc
    exact hv_t_baload hx hb hKx.1 hd
  · cases hc
theorem hv_k_laload (X : hv_X p R s m args meth c cc nL own ini D b sa sv cA mc ms) (hc : hv_ck own ini rt cc lb pc .laload = some pc') : hv_I (hv_SW p l e R s m args below meth c Q D vwCl b sa cA nL) Fn pc lb (hv_step hv_cm hv_vk hv_dv hv_ft mc ms rt call .laload) pc' := by
  obtain ⟨⟨hx, hb, hml, hown⟩, hts, hKx, ⟨hRc, hRs, hRf, hRl⟩, hini⟩ := X
  simp only [hv_ck] at hc
  split at hc
  · rename_i hd
    cases Option.some.inj hc
    exact hv_t_laload hx hb hKx.1 hd
  · cases hc
theorem hv_k_aaload (X : hv_X p R s m args meth c cc nL own ini D b sa sv cA mc ms) (hc : hv_ck own ini rt cc lb pc .aaload = some pc') : hv_I (hv_SW p l e R s m args below meth c Q D vwCl b sa cA nL) Fn pc lb (hv_step hv_cm hv_vk hv_dv hv_ft mc ms rt call .aaload) pc' := by
  obtain ⟨⟨hx, hb, hml, hown⟩, hts, hKx, ⟨hRc, hRs, hRf, hRl⟩, hini⟩ := X
  simp only [hv_ck] at hc
  split at hc
  · rename_i hd
    cases Option.some.inj hc
    exact hv_t_aaload hx hb hKx.1 hd
  · cases hc
theorem hv_k_iastore (X : hv_X p R s m args meth c cc nL own ini D b sa sv cA mc ms) (hc : hv_ck own ini rt cc lb pc .iastore = some pc') : hv_I (hv_SW p l e R s m args below meth c Q D vwCl b sa cA nL) Fn pc lb (hv_step hv_cm hv_vk hv_dv hv_ft mc ms rt call .iastore) pc' := by
  obtain ⟨⟨hx, hb, hml, hown⟩, hts, hKx, ⟨hRc, hRs, hRf, hRl⟩, hini⟩ := X
  simp only [hv_ck] at hc
  split at hc
  · rename_i hd
    cases Option.some.inj hc
    exact hv_t_iastore hx hb hKx.1 hd
  · cases hc
theorem hv_k_bastore (X : hv_X p R s m args meth c cc nL own ini D b sa sv cA mc ms) (hc : hv_ck own ini rt cc lb pc .bastore = some pc') : hv_I (hv_SW p l e R s m args below meth c Q D vwCl b sa cA nL) Fn pc lb (hv_step hv_cm hv_vk hv_dv hv_ft mc ms rt call .bastore) pc' := by
  obtain ⟨⟨hx, hb, hml, hown⟩, hts, hKx, ⟨hRc, hRs, hRf, hRl⟩, hini⟩ := X
  simp only [hv_ck] at hc
  split at hc
  · rename_i hd
    cases Option.some.inj hc
    exact hv_t_bastore hx hb hKx.1 hd
  · cases hc
theorem hv_k_lastore (X : hv_X p R s m args meth c cc nL own ini D b sa sv cA mc ms) (hc : hv_ck own ini rt cc lb pc .lastore = some pc') : hv_I (hv_SW p l e R s m args below meth c Q D vwCl b sa cA nL) Fn pc lb (hv_step hv_cm hv_vk hv_dv hv_ft mc ms rt call .lastore) pc' := by
  obtain ⟨⟨hx, hb, hml, hown⟩, hts, hKx, ⟨hRc, hRs, hRf, hRl⟩, hini⟩ := X
  simp only [hv_ck] at hc
  split at hc
  · rename_i hd
    cases Option.some.inj hc
    exact hv_t_lastore hx hb hKx.1 hd
  · cases hc
theorem hv_k_aastore (X : hv_X p R s m args meth c cc nL own ini D b sa sv cA mc ms) (hc : hv_ck own ini rt cc lb pc .aastore = some pc') : hv_I (hv_SW p l e R s m args below meth c Q D vwCl b sa cA nL) Fn pc lb (hv_step hv_cm hv_vk hv_dv hv_ft mc ms rt call .aastore) pc' := by
  obtain ⟨⟨hx, hb, hml, hown⟩, hts, hKx, ⟨hRc, hRs, hRf, hRl⟩, hini⟩ := X
  simp only [hv_ck] at hc
  split at hc
  · rename_i hd
    cases Option.some.inj hc
    exact hv_t_aastore hx hb hKx.1 ⟨_, _, hv_cl (ci := 9) (by decide)⟩ ⟨_, _, hv_cl (ci := 1) (by decide)⟩ hd
  · cases hc
theorem hv_k_arraylength (X : hv_X p R s m args meth c cc nL own ini D b sa sv cA mc ms) (hc : hv_ck own ini rt cc lb pc .arraylength = some pc') : hv_I (hv_SW p l e R s m args below meth c Q D vwCl b sa cA nL) Fn pc lb (hv_step hv_cm hv_vk hv_dv hv_ft mc ms rt call .arraylength) pc' := by
  obtain ⟨⟨hx, hb, hml, hown⟩, hts, hKx, ⟨hRc, hRs, hRf, hRl⟩, hini⟩ := X
  simp only [hv_ck] at hc
  split at hc
  · rename_i hd
    cases Option.some.inj hc
    exact hv_t_arraylength hx hb hKx.1 hd
  · cases hc
theorem hv_k_ireturn (X : hv_X p R s m args meth c cc nL own ini D b sa sv cA mc ms) (XE : hv_XE s args below meth Q D b sa cA Fn mc ms rt) (hc : hv_ck own ini rt cc lb pc .ireturn = some pc') : hv_I (hv_SW p l e R s m args below meth c Q D vwCl b sa cA nL) Fn pc lb (hv_step hv_cm hv_vk hv_dv hv_ft mc ms rt call .ireturn) pc' := by
  obtain ⟨⟨hx, hb, hml, hown⟩, hts, hKx, ⟨hRc, hRs, hRf, hRl⟩, hini⟩ := X
  simp only [hv_ck] at hc
  obtain ⟨Qc, free, hQ, hr0, hlk, hfree, hq⟩ := XE
  split at hc
  · rename_i hd
    cases Option.some.inj hc
    exact hv_t_ireturn hx hb hQ hr0 hlk hfree hq hd
  · cases hc
theorem hv_k_lreturn (X : hv_X p R s m args meth c cc nL own ini D b sa sv cA mc ms) (XE : hv_XE s args below meth Q D b sa cA Fn mc ms rt) (hc : hv_ck own ini rt cc lb pc .lreturn = some pc') : hv_I (hv_SW p l e R s m args below meth c Q D vwCl b sa cA nL) Fn pc lb (hv_step hv_cm hv_vk hv_dv hv_ft mc ms rt call .lreturn) pc' := by
  obtain ⟨⟨hx, hb, hml, hown⟩, hts, hKx, ⟨hRc, hRs, hRf, hRl⟩, hini⟩ := X
  simp only [hv_ck] at hc
  obtain ⟨Qc, free, hQ, hr0, hlk, hfree, hq⟩ := XE
  split at hc
  · rename_i hd
    cases Option.some.inj hc
    exact hv_t_lreturn hx hb hQ hr0 hlk hfree hq hd
  · cases hc
theorem hv_stepOK (X : hv_X p R s m args meth c cc nL own ini D b sa sv cA mc ms) (XE : hv_XE s args below meth Q D b sa cA Fn mc ms rt) (XC : hv_XC p l e R s m args below meth c Q cc nL own D b sa cA call) : ∀ (lb : List Nat) (pc : Nat) (i : Instr) (pc' : Nat), hv_ck own ini rt cc lb pc i = some pc' → hv_I (hv_SW p l e R s m args below meth c Q D vwCl b sa cA nL) Fn pc lb (hv_step hv_cm hv_vk hv_dv hv_ft mc ms rt call i) pc' := by
  intro lb pc i pc' h
  cases i
  case iconst => exact hv_k_iconst X h
  case bipush => exact hv_k_bipush X h
  case ldc => exact hv_k_ldc X h
  case iload => exact hv_k_iload X h
  case istore => exact hv_k_istore X h
  case lload => exact hv_k_lload X h
  case lstore => exact hv_k_lstore X h
  case aload => exact hv_k_aload X h
  case astore => exact hv_k_astore X h
  case iinc => exact hv_k_iinc X h
  case goto => exact hv_k_goto X h
  case ifnull => exact hv_k_ifnull X h
  case ifnonnull => exact hv_k_ifnonnull X h
  case ifCond => exact hv_k_ifCond X h
  case if_icmp => exact hv_k_if_icmp X h
  case tableswitch => exact hv_k_tableswitch X h
  case getfield => exact hv_k_getfield X h
  case putfield => exact hv_k_putfield X h
  case new => exact hv_k_new X h
  case newarray => exact hv_k_newarray X h
  case anewarray => exact hv_k_anewarray X h
  case invokespecial => exact hv_k_invokespecial X h
  case invokestatic => exact hv_k_invokestatic X h
  case swap => exact hv_k_swap X h
  case checkcast => exact hv_k_checkcast X h
  case invokeinterface => exact hv_k_invokeinterface X XC h
  case areturn => exact hv_k_areturn X XE h
  case return_ => exact hv_k_return_ X XE h
  case aconst_null => exact hv_k_aconst_null X h
  case iadd => exact hv_k_iadd X h
  case isub => exact hv_k_isub X h
  case imul => exact hv_k_imul X h
  case iand => exact hv_k_iand X h
  case ior => exact hv_k_ior X h
  case ishl => exact hv_k_ishl X h
  case ishr => exact hv_k_ishr X h
  case iushr => exact hv_k_iushr X h
  case idiv => exact hv_k_idiv X h
  case irem => exact hv_k_irem X h
  case ineg => exact hv_k_ineg X h
  case ladd => exact hv_k_ladd X h
  case lsub => exact hv_k_lsub X h
  case lmul => exact hv_k_lmul X h
  case ldiv => exact hv_k_ldiv X h
  case lrem => exact hv_k_lrem X h
  case lcmp => exact hv_k_lcmp X h
  case i2l => exact hv_k_i2l X h
  case l2i => exact hv_k_l2i X h
  case i2b => exact hv_k_i2b X h
  case dup => exact hv_k_dup X h
  case dup2 => exact hv_k_dup2 X h
  case pop => exact hv_k_pop X h
  case iaload => exact hv_k_iaload X h
  case baload => exact hv_k_baload X h
  case laload => exact hv_k_laload X h
  case aaload => exact hv_k_aaload X h
  case iastore => exact hv_k_iastore X h
  case bastore => exact hv_k_bastore X h
  case lastore => exact hv_k_lastore X h
  case aastore => exact hv_k_aastore X h
  case arraylength => exact hv_k_arraylength X h
  case ireturn => exact hv_k_ireturn X XE h
  case lreturn => exact hv_k_lreturn X XE h
  all_goals (cases h)
end HVK
