/-! What an instruction does, a row each. -/
section ST
variable {cm : Nat → Nat × Nat} {vk : Nat → Option Nat} {dv : Nat → List Value} {ft : Nat → Nat → FieldType} {mc ms : Nat} {rt : Option FieldType} {call : hv_F} {ls : hv_L} {st : List Value} {h : hv_H} {nc ns : Nat}
theorem st_iconst {n : Int} : hv_step cm vk dv ft mc ms rt call (.iconst n) (ls, st, h, nc, ns) = (hv_nx ls (.int (Int32.ofInt n) :: st) h nc ns) := rfl
theorem st_bipush {n : Int} : hv_step cm vk dv ft mc ms rt call (.bipush n) (ls, st, h, nc, ns) = (hv_nx ls (.long (Int64.ofInt n) :: st) h nc ns) := rfl
theorem st_ldc {k : Nat} : hv_step cm vk dv ft mc ms rt call (.ldc k) (ls, st, h, nc, ns) = (hv_nx ls (.retAddr k :: st) h nc ns) := rfl
theorem st_aconst_null  : hv_step cm vk dv ft mc ms rt call .aconst_null (ls, st, h, nc, ns) = (hv_nx ls (.null :: st) h nc ns) := rfl
theorem st_iload {i : Nat} : hv_step cm vk dv ft mc ms rt call (.iload i) (ls, st, h, nc, ns) = (match ls[i]? with
    | some (some (.int x)) => hv_nx ls (.int x :: st) h nc ns
    | _ => none) := rfl
theorem st_lload {i : Nat} : hv_step cm vk dv ft mc ms rt call (.lload i) (ls, st, h, nc, ns) = (match ls[i]? with
    | some (some (.long x)) => hv_nx ls (.long x :: st) h nc ns
    | _ => none) := rfl
theorem st_aload {i : Nat} : hv_step cm vk dv ft mc ms rt call (.aload i) (ls, st, h, nc, ns) = (match ls[i]? with
    | some (some (.ref x)) => hv_nx ls (.ref x :: st) h nc ns
    | some (some (.retAddr x)) => hv_nx ls (.retAddr x :: st) h nc ns
    | some (some .null) => hv_nx ls (.null :: st) h nc ns
    | _ => none) := rfl
theorem st_istore {i : Nat} : hv_step cm vk dv ft mc ms rt call (.istore i) (ls, st, h, nc, ns) = (match st with
    | .int x :: st => if i < ls.length then hv_nx (hv_st1 ls i (.int x)) st h nc ns else none
    | _ => none) := rfl
theorem st_astore {i : Nat} : hv_step cm vk dv ft mc ms rt call (.astore i) (ls, st, h, nc, ns) = (match st with
    | .ref x :: st => if i < ls.length then hv_nx (hv_st1 ls i (.ref x)) st h nc ns else none
    | .null :: st => if i < ls.length then hv_nx (hv_st1 ls i .null) st h nc ns else none
    | _ => none) := rfl
theorem st_lstore {i : Nat} : hv_step cm vk dv ft mc ms rt call (.lstore i) (ls, st, h, nc, ns) = (match st with
    | .long x :: st => if i + 1 < ls.length then hv_nx (hv_st2 ls i (.long x)) st h nc ns else none
    | _ => none) := rfl
theorem st_iinc {i : Nat} {n : Int} : hv_step cm vk dv ft mc ms rt call (.iinc i n) (ls, st, h, nc, ns) = (match ls[i]? with
    | some (some (.int x)) => hv_nx (hv_st1 ls i (.int (x + Int32.ofInt n))) st h nc ns
    | _ => none) := rfl
theorem st_iadd  : hv_step cm vk dv ft mc ms rt call .iadd (ls, st, h, nc, ns) = (match st with
    | .int y :: .int x :: st => hv_nx ls (.int (x + y) :: st) h nc ns
    | _ => none) := rfl
theorem st_isub  : hv_step cm vk dv ft mc ms rt call .isub (ls, st, h, nc, ns) = (match st with
    | .int y :: .int x :: st => hv_nx ls (.int (x - y) :: st) h nc ns
    | _ => none) := rfl
theorem st_imul  : hv_step cm vk dv ft mc ms rt call .imul (ls, st, h, nc, ns) = (match st with
    | .int y :: .int x :: st => hv_nx ls (.int (x * y) :: st) h nc ns
    | _ => none) := rfl
theorem st_iand  : hv_step cm vk dv ft mc ms rt call .iand (ls, st, h, nc, ns) = (match st with
    | .int y :: .int x :: st => hv_nx ls (.int (x &&& y) :: st) h nc ns
    | _ => none) := rfl
theorem st_ior  : hv_step cm vk dv ft mc ms rt call .ior (ls, st, h, nc, ns) = (match st with
    | .int y :: .int x :: st => hv_nx ls (.int (x ||| y) :: st) h nc ns
    | _ => none) := rfl
theorem st_ishl  : hv_step cm vk dv ft mc ms rt call .ishl (ls, st, h, nc, ns) = (match st with
    | .int y :: .int x :: st => hv_nx ls (.int (x <<< (y &&& 31)) :: st) h nc ns
    | _ => none) := rfl
theorem st_ishr  : hv_step cm vk dv ft mc ms rt call .ishr (ls, st, h, nc, ns) = (match st with
    | .int y :: .int x :: st => hv_nx ls (.int (x >>> (y &&& 31)) :: st) h nc ns
    | _ => none) := rfl
theorem st_iushr  : hv_step cm vk dv ft mc ms rt call .iushr (ls, st, h, nc, ns) = (match st with
    | .int y :: .int x :: st => hv_nx ls (.int ((x.toUInt32 >>> (y.toUInt32 &&& Int32.toUInt32 31)).toInt32) :: st) h nc ns
    | _ => none) := rfl
theorem st_idiv  : hv_step cm vk dv ft mc ms rt call .idiv (ls, st, h, nc, ns) = (match st with
    | .int y :: .int x :: st => if y = 0 then none else hv_nx ls (.int (x / y) :: st) h nc ns
    | _ => none) := rfl
theorem st_irem  : hv_step cm vk dv ft mc ms rt call .irem (ls, st, h, nc, ns) = (match st with
    | .int y :: .int x :: st => if y = 0 then none else hv_nx ls (.int (x - x / y * y) :: st) h nc ns
    | _ => none) := rfl
theorem st_ineg  : hv_step cm vk dv ft mc ms rt call .ineg (ls, st, h, nc, ns) = (match st with
    | .int x :: st => hv_nx ls (.int (-x) :: st) h nc ns
    | _ => none) := rfl
theorem st_ladd  : hv_step cm vk dv ft mc ms rt call .ladd (ls, st, h, nc, ns) = (match st with
    | .long y :: .long x :: st => hv_nx ls (.long (x + y) :: st) h nc ns
    | _ => none) := rfl
theorem st_lsub  : hv_step cm vk dv ft mc ms rt call .lsub (ls, st, h, nc, ns) = (match st with
    | .long y :: .long x :: st => hv_nx ls (.long (x - y) :: st) h nc ns
    | _ => none) := rfl
theorem st_lmul  : hv_step cm vk dv ft mc ms rt call .lmul (ls, st, h, nc, ns) = (match st with
    | .long y :: .long x :: st => hv_nx ls (.long (x * y) :: st) h nc ns
    | _ => none) := rfl
theorem st_ldiv  : hv_step cm vk dv ft mc ms rt call .ldiv (ls, st, h, nc, ns) = (match st with
    | .long y :: .long x :: st => if y = 0 then none else hv_nx ls (.long (x / y) :: st) h nc ns
    | _ => none) := rfl
theorem st_lrem  : hv_step cm vk dv ft mc ms rt call .lrem (ls, st, h, nc, ns) = (match st with
    | .long y :: .long x :: st => if y = 0 then none else hv_nx ls (.long (x - x / y * y) :: st) h nc ns
    | _ => none) := rfl
theorem st_lcmp  : hv_step cm vk dv ft mc ms rt call .lcmp (ls, st, h, nc, ns) = (match st with
    | .long y :: .long x :: st => hv_nx ls (.int (lg_cmp x y) :: st) h nc ns
    | _ => none) := rfl
theorem st_i2l  : hv_step cm vk dv ft mc ms rt call .i2l (ls, st, h, nc, ns) = (match st with
    | .int x :: st => hv_nx ls (.long x.toInt64 :: st) h nc ns
    | _ => none) := rfl
theorem st_l2i  : hv_step cm vk dv ft mc ms rt call .l2i (ls, st, h, nc, ns) = (match st with
    | .long x :: st => hv_nx ls (.int x.toInt32 :: st) h nc ns
    | _ => none) := rfl
theorem st_i2b  : hv_step cm vk dv ft mc ms rt call .i2b (ls, st, h, nc, ns) = (match st with
    | .int x :: st => hv_nx ls (.int x.toInt8.toInt32 :: st) h nc ns
    | _ => none) := rfl
theorem st_dup  : hv_step cm vk dv ft mc ms rt call .dup (ls, st, h, nc, ns) = (match st with
    | .int x :: st => hv_nx ls (.int x :: .int x :: st) h nc ns
    | .ref x :: st => hv_nx ls (.ref x :: .ref x :: st) h nc ns
    | _ => none) := rfl
theorem st_dup2  : hv_step cm vk dv ft mc ms rt call .dup2 (ls, st, h, nc, ns) = (match st with
    | .int x :: .ref y :: st => hv_nx ls (.int x :: .ref y :: .int x :: .ref y :: st) h nc ns
    | _ => none) := rfl
theorem st_pop  : hv_step cm vk dv ft mc ms rt call .pop (ls, st, h, nc, ns) = (match st with
    | .int _ :: st => hv_nx ls st h nc ns
    | .ref _ :: st => hv_nx ls st h nc ns
    | _ => none) := rfl
theorem st_goto {k : Int} : hv_step cm vk dv ft mc ms rt call (.goto k) (ls, st, h, nc, ns) = (some (.inl (k.toNat + 1, ls, st, h, nc, ns))) := rfl
theorem st_ifCond {op : ClassFile.Cond} {k : Int} : hv_step cm vk dv ft mc ms rt call (.ifCond op k) (ls, st, h, nc, ns) = (match st with
    | .int x :: st => if hv_cmp op x 0 then some (.inl (k.toNat + 1, ls, st, h, nc, ns)) else hv_nx ls st h nc ns
    | _ => none) := rfl
theorem st_if_icmp {op : ClassFile.Cond} {k : Int} : hv_step cm vk dv ft mc ms rt call (.if_icmp op k) (ls, st, h, nc, ns) = (match st with
    | .int y :: .int x :: st => if hv_cmp op x y then some (.inl (k.toNat + 1, ls, st, h, nc, ns)) else hv_nx ls st h nc ns
    | _ => none) := rfl
theorem st_ifnull {k : Int} : hv_step cm vk dv ft mc ms rt call (.ifnull k) (ls, st, h, nc, ns) = (match st with
    | .null :: st => some (.inl (k.toNat + 1, ls, st, h, nc, ns))
    | .ref _ :: st => hv_nx ls st h nc ns
    | _ => none) := rfl
theorem st_ifnonnull {k : Int} : hv_step cm vk dv ft mc ms rt call (.ifnonnull k) (ls, st, h, nc, ns) = (match st with
    | .null :: st => hv_nx ls st h nc ns
    | .ref _ :: st => some (.inl (k.toNat + 1, ls, st, h, nc, ns))
    | _ => none) := rfl
theorem st_tableswitch {d lo hi : Int} {ks : Array Int} : hv_step cm vk dv ft mc ms rt call (.tableswitch d lo hi ks) (ls, st, h, nc, ns) = (match st with
    | .int x :: st => if x.toInt < lo ∨ hi < x.toInt then some (.inl (d.toNat + 1, ls, st, h, nc, ns)) else match ks[(x.toInt - lo).toNat]? with
      | some k => some (.inl (k.toNat + 1, ls, st, h, nc, ns))
      | none => none
    | _ => none) := rfl
theorem st_getfield {n : Nat} : hv_step cm vk dv ft mc ms rt call (.getfield n) (ls, st, h, nc, ns) = (match st with
    | .ref a :: st => match h[a]? with
      | some (.inr (ci, fs)) => if ci = n / 100 then match fs[n % 100]? with
        | some v => hv_nx ls (v :: st) h nc ns
        | none => none
        else none
      | _ => none
    | _ => none) := rfl
theorem st_putfield {n : Nat} : hv_step cm vk dv ft mc ms rt call (.putfield n) (ls, st, h, nc, ns) = (match st with
    | v :: .ref a :: st => match h[a]? with
      | some (.inr (ci, fs)) => if ci = n / 100 ∧ n % 100 < fs.length ∧ hv_fok (ft (n / 100) (n % 100)) v = true then hv_nx ls st (h.set a (.inr (ci, fs.set (n % 100) v))) nc ns else none
      | _ => none
    | _ => none) := rfl
theorem st_iaload  : hv_step cm vk dv ft mc ms rt call .iaload (ls, st, h, nc, ns) = (match st with
    | .int i :: .ref a :: st => match h[a]? with
      | some (.inl (0, n, .inl f)) => if i < 0 ∨ n ≤ i.toNatClampNeg then none else hv_nx ls (.int (f i.toNatClampNeg) :: st) h nc ns
      | _ => none
    | _ => none) := rfl
theorem st_baload  : hv_step cm vk dv ft mc ms rt call .baload (ls, st, h, nc, ns) = (match st with
    | .int i :: .ref a :: st => match h[a]? with
      | some (.inl (1, n, .inl f)) => if i < 0 ∨ n ≤ i.toNatClampNeg then none else hv_nx ls (.int (f i.toNatClampNeg) :: st) h nc ns
      | some (.inl (2, n, .inl f)) => if i < 0 ∨ n ≤ i.toNatClampNeg then none else hv_nx ls (.int (f i.toNatClampNeg) :: st) h nc ns
      | _ => none
    | _ => none) := rfl
theorem st_laload  : hv_step cm vk dv ft mc ms rt call .laload (ls, st, h, nc, ns) = (match st with
    | .int i :: .ref a :: st => match h[a]? with
      | some (.inl (3, n, .inr (.inl f))) => if i < 0 ∨ n ≤ i.toNatClampNeg then none else hv_nx ls (.long (f i.toNatClampNeg) :: st) h nc ns
      | _ => none
    | _ => none) := rfl
theorem st_aaload  : hv_step cm vk dv ft mc ms rt call .aaload (ls, st, h, nc, ns) = (match st with
    | .int i :: .ref a :: st => match h[a]? with
      | some (.inl (t, n, .inr (.inr (.inr (.inr f))))) => if (t = 4 ∨ t = 5) ∧ ¬ (i < 0 ∨ n ≤ i.toNatClampNeg) then hv_nx ls (va_rf (f i.toNatClampNeg) :: st) h nc ns else none
      | _ => none
    | _ => none) := rfl
theorem st_iastore  : hv_step cm vk dv ft mc ms rt call .iastore (ls, st, h, nc, ns) = (match st with
    | .int x :: .int i :: .ref a :: st => match h[a]? with
      | some (.inl (0, n, .inl f)) => if i < 0 ∨ n ≤ i.toNatClampNeg then none else hv_nx ls st (h.set a (.inl (0, n, .inl (upd f i.toNatClampNeg x)))) nc ns
      | _ => none
    | _ => none) := rfl
theorem st_bastore  : hv_step cm vk dv ft mc ms rt call .bastore (ls, st, h, nc, ns) = (match st with
    | .int x :: .int i :: .ref a :: st => match h[a]? with
      | some (.inl (1, n, .inl f)) => if i < 0 ∨ n ≤ i.toNatClampNeg then none else hv_nx ls st (h.set a (.inl (1, n, .inl (upd f i.toNatClampNeg x.toInt8.toInt32)))) nc ns
      | some (.inl (2, n, .inl f)) => if i < 0 ∨ n ≤ i.toNatClampNeg then none else hv_nx ls st (h.set a (.inl (2, n, .inl (upd f i.toNatClampNeg (x &&& 1))))) nc ns
      | _ => none
    | _ => none) := rfl
theorem st_lastore  : hv_step cm vk dv ft mc ms rt call .lastore (ls, st, h, nc, ns) = (match st with
    | .long x :: .int i :: .ref a :: st => match h[a]? with
      | some (.inl (3, n, .inr (.inl f))) => if i < 0 ∨ n ≤ i.toNatClampNeg then none else hv_nx ls st (h.set a (.inl (3, n, .inr (.inl (vp_updL f i.toNatClampNeg x))))) nc ns
      | _ => none
    | _ => none) := rfl
theorem st_aastore  : hv_step cm vk dv ft mc ms rt call .aastore (ls, st, h, nc, ns) = (match st with
    | .ref x :: .int i :: .ref a :: st => match h[a]? with
      | some (.inl (t, n, .inr (.inr (.inr (.inr f))))) => if (t = 4 ∧ hv_rc (some 9) [.ref x] h = true ∨ t = 5 ∧ hv_rc (some 1) [.ref x] h = true) ∧ ¬ (i < 0 ∨ n ≤ i.toNatClampNeg) then hv_nx ls st (h.set a (.inl (t, n, .inr (.inr (.inr (.inr (va_up f i.toNatClampNeg (some x)))))))) nc ns else none
      | _ => none
    | .null :: .int i :: .ref a :: st => match h[a]? with
      | some (.inl (t, n, .inr (.inr (.inr (.inr f))))) => if (t = 4 ∨ t = 5) ∧ ¬ (i < 0 ∨ n ≤ i.toNatClampNeg) then hv_nx ls st (h.set a (.inl (t, n, .inr (.inr (.inr (.inr (va_up f i.toNatClampNeg none))))))) nc ns else none
      | _ => none
    | _ => none) := rfl
theorem st_arraylength  : hv_step cm vk dv ft mc ms rt call .arraylength (ls, st, h, nc, ns) = (match st with
    | .ref a :: st => match h[a]? with
      | some (.inl (t, n, _)) => if t ≤ 5 then hv_nx ls (.int (Int32.ofNat n) :: st) h nc ns else none
      | _ => none
    | _ => none) := rfl
theorem st_new {ci : Nat} : hv_step cm vk dv ft mc ms rt call (.new ci) (ls, st, h, nc, ns) = (if nc + 1 ≤ mc ∧ ns + (dv ci).length ≤ ms then hv_nx ls (.ref h.length :: st) (h ++ [.inr (ci, dv ci)]) (nc + 1) (ns + (dv ci).length) else none) := rfl
theorem st_newarray {ty : ArrayType} : hv_step cm vk dv ft mc ms rt call (.newarray ty) (ls, st, h, nc, ns) = (match st with
    | .int n :: st => if ¬ n < 0 ∧ n.toNatClampNeg ≤ 20000 ∧ nc + 1 ≤ mc ∧ ns + n.toNatClampNeg ≤ ms then match ty with
      | .int => hv_nx ls (.ref h.length :: st) (h ++ [.inl (0, n.toNatClampNeg, .inl (fun _ => 0))]) (nc + 1) (ns + n.toNatClampNeg)
      | .byte => hv_nx ls (.ref h.length :: st) (h ++ [.inl (1, n.toNatClampNeg, .inl (fun _ => 0))]) (nc + 1) (ns + n.toNatClampNeg)
      | .boolean => hv_nx ls (.ref h.length :: st) (h ++ [.inl (2, n.toNatClampNeg, .inl (fun _ => 0))]) (nc + 1) (ns + n.toNatClampNeg)
      | .long => hv_nx ls (.ref h.length :: st) (h ++ [.inl (3, n.toNatClampNeg, .inr (.inl (fun _ => 0)))]) (nc + 1) (ns + n.toNatClampNeg)
      | _ => none
      else none
    | _ => none) := rfl
theorem st_anewarray {t : Nat} : hv_step cm vk dv ft mc ms rt call (.anewarray t) (ls, st, h, nc, ns) = (match st with
    | .int n :: st => if (t = 4 ∨ t = 5) ∧ ¬ n < 0 ∧ n.toNatClampNeg ≤ 20000 ∧ nc + 1 ≤ mc ∧ ns + n.toNatClampNeg ≤ ms then hv_nx ls (.ref h.length :: st) (h ++ [.inl (t, n.toNatClampNeg, .inr (.inr (.inr (.inr (fun _ => none)))))]) (nc + 1) (ns + n.toNatClampNeg) else none
    | _ => none) := rfl
theorem st_invokespecial {z : Nat} : hv_step cm vk dv ft mc ms rt call (.invokespecial z) (ls, st, h, nc, ns) = (match st with
    | .ref _ :: st => if hv_w st ≤ 8 then hv_nx ls st h nc ns else none
    | _ => none) := rfl
theorem st_invokestatic {z : Nat} : hv_step cm vk dv ft mc ms rt call (.invokestatic z) (ls, st, h, nc, ns) = (match st with
    | .int n :: .int dp :: .ref a1 :: .int sp :: .ref a0 :: st => match h[a0]?, h[a1]? with
      | some (.inl (0, n0, .inl f)), some (.inl (0, n1, .inl g)) => if hv_w st ≤ 8 ∧ ¬ sp < 0 ∧ ¬ dp < 0 ∧ ¬ n < 0 ∧ sp.toNatClampNeg + n.toNatClampNeg ≤ n0 ∧ dp.toNatClampNeg + n.toNatClampNeg ≤ n1 then hv_nx ls st (h.set a1 (.inl (0, n1, .inl (va_cpy f g sp.toNatClampNeg dp.toNatClampNeg n.toNatClampNeg)))) nc ns else none
      | _, _ => none
    | _ => none) := rfl
theorem st_swap  : hv_step cm vk dv ft mc ms rt call .swap (ls, st, h, nc, ns) = (match st with
    | .ref a :: st => match h[a]? with
      | some (.inl (0, n, .inl f)) => if hv_w st ≤ 8 ∧ nc + 1 ≤ mc ∧ ns + n ≤ ms then hv_nx ls (.ref h.length :: st) (h ++ [.inl (0, n, .inl f)]) (nc + 1) (ns + n) else none
      | _ => none
    | _ => none) := rfl
theorem st_checkcast {z : Nat} : hv_step cm vk dv ft mc ms rt call (.checkcast z) (ls, st, h, nc, ns) = (match st with
    | .ref a :: st => match h[a]? with
      | some (.inl (0, _, .inl _)) => hv_nx ls (.ref a :: st) h nc ns
      | _ => none
    | _ => none) := rfl
theorem st_invokeinterface {j n : Nat} : hv_step cm vk dv ft mc ms rt call (.invokeinterface j n) (ls, st, h, nc, ns) = (if n ≤ st.length ∧ hv_w (st.drop n) ≤ 8 ∧ nc + (cm j).1 ≤ mc ∧ ns + (cm j).2 ≤ ms ∧ hv_rc (vk j) (st.take n).reverse h = true then match call j (st.take n).reverse h with
      | some (rv, h') => hv_nx ls (rv.toList ++ st.drop n) h' (nc + (cm j).1) (ns + (cm j).2)
      | none => none
      else none) := rfl
theorem st_ireturn  : hv_step cm vk dv ft mc ms rt call .ireturn (ls, st, h, nc, ns) = (match st with
    | [.int v] => match rt with
      | some ty => if narrow ty (.int v) = .int v ∧ nc ≤ mc ∧ ns ≤ ms then some (.inr (some (.int v), h)) else none
      | none => none
    | _ => none) := rfl
theorem st_lreturn  : hv_step cm vk dv ft mc ms rt call .lreturn (ls, st, h, nc, ns) = (match st with
    | [.long v] => if rt = some .long ∧ nc ≤ mc ∧ ns ≤ ms then some (.inr (some (.long v), h)) else none
    | _ => none) := rfl
theorem st_areturn  : hv_step cm vk dv ft mc ms rt call .areturn (ls, st, h, nc, ns) = (match st with
    | [.ref v] => if nc ≤ mc ∧ ns ≤ ms then some (.inr (some (.ref v), h)) else none
    | [.null] => if nc ≤ mc ∧ ns ≤ ms then some (.inr (some .null, h)) else none
    | _ => none) := rfl
theorem st_return_  : hv_step cm vk dv ft mc ms rt call .return_ (ls, st, h, nc, ns) = (match st with
    | [] => if nc ≤ mc ∧ ns ≤ ms then some (.inr (none, h)) else none
    | _ => none) := rfl
end ST
section SF
variable {cm : Nat → Nat × Nat} {vk : Nat → Option Nat} {dv : Nat → List Value} {mc ms : Nat} {rt : Option FieldType} {call : hv_F} {ls : hv_L} {st : List Value} {w : wW} {nc ns : Nat}
theorem gf_0 {ft : Nat → Nat → FieldType} : hv_step cm vk dv ft mc ms rt call (.getfield 1000) (ls, .ref 0 :: st, wB w, nc, ns) = hv_nx ls (.ref 1 :: st) (wB w) nc ns := rfl
theorem gf_1 {ft : Nat → Nat → FieldType} : hv_step cm vk dv ft mc ms rt call (.getfield 1001) (ls, .ref 0 :: st, wB w, nc, ns) = hv_nx ls (.ref 2 :: st) (wB w) nc ns := rfl
theorem gf_2 {ft : Nat → Nat → FieldType} : hv_step cm vk dv ft mc ms rt call (.getfield 1002) (ls, .ref 0 :: st, wB w, nc, ns) = hv_nx ls (.ref 7 :: st) (wB w) nc ns := rfl
theorem gf_3 {ft : Nat → Nat → FieldType} : hv_step cm vk dv ft mc ms rt call (.getfield 1003) (ls, .ref 0 :: st, wB w, nc, ns) = hv_nx ls (.ref 8 :: st) (wB w) nc ns := rfl
theorem gf_4 {ft : Nat → Nat → FieldType} : hv_step cm vk dv ft mc ms rt call (.getfield 1004) (ls, .ref 0 :: st, wB w, nc, ns) = hv_nx ls (.ref 10 :: st) (wB w) nc ns := rfl
theorem gf_5 {ft : Nat → Nat → FieldType} : hv_step cm vk dv ft mc ms rt call (.getfield 1005) (ls, .ref 0 :: st, wB w, nc, ns) = hv_nx ls (.ref 12 :: st) (wB w) nc ns := rfl
theorem gf_6 {ft : Nat → Nat → FieldType} : hv_step cm vk dv ft mc ms rt call (.getfield 1006) (ls, .ref 0 :: st, wB w, nc, ns) = hv_nx ls (.ref 18 :: st) (wB w) nc ns := rfl
theorem gf_7 {ft : Nat → Nat → FieldType} : hv_step cm vk dv ft mc ms rt call (.getfield 1007) (ls, .ref 0 :: st, wB w, nc, ns) = hv_nx ls (.ref 24 :: st) (wB w) nc ns := rfl
theorem gf_8 {ft : Nat → Nat → FieldType} : hv_step cm vk dv ft mc ms rt call (.getfield 1008) (ls, .ref 0 :: st, wB w, nc, ns) = hv_nx ls (.ref 34 :: st) (wB w) nc ns := rfl
theorem gf_9 {ft : Nat → Nat → FieldType} : hv_step cm vk dv ft mc ms rt call (.getfield 1009) (ls, .ref 0 :: st, wB w, nc, ns) = hv_nx ls (.ref 35 :: st) (wB w) nc ns := rfl
theorem gf_10 {ft : Nat → Nat → FieldType} : hv_step cm vk dv ft mc ms rt call (.getfield 1010) (ls, .ref 0 :: st, wB w, nc, ns) = hv_nx ls (.ref 39 :: st) (wB w) nc ns := rfl
theorem gf_11 {ft : Nat → Nat → FieldType} : hv_step cm vk dv ft mc ms rt call (.getfield 1011) (ls, .ref 0 :: st, wB w, nc, ns) = hv_nx ls (.int (w_sc w 11) :: st) (wB w) nc ns := rfl
theorem pf_11 {x : Int32} : hv_step cm vk dv hv_ft mc ms rt call (.putfield 1011) (ls, .int x :: .ref 0 :: st, wB w, nc, ns) = hv_nx ls st (wB (s_sc w 11 x)) nc ns := by simp [st_putfield, wr_0, hv_ft, tyX10, k_fi32, wp_11]
theorem gf_12 {ft : Nat → Nat → FieldType} : hv_step cm vk dv ft mc ms rt call (.getfield 1012) (ls, .ref 0 :: st, wB w, nc, ns) = hv_nx ls (.int (w_sc w 12) :: st) (wB w) nc ns := rfl
theorem pf_12 {x : Int32} : hv_step cm vk dv hv_ft mc ms rt call (.putfield 1012) (ls, .int x :: .ref 0 :: st, wB w, nc, ns) = hv_nx ls st (wB (s_sc w 12 x)) nc ns := by simp [st_putfield, wr_0, hv_ft, tyX10, k_fi32, wp_12]
theorem gf_13 {ft : Nat → Nat → FieldType} : hv_step cm vk dv ft mc ms rt call (.getfield 1013) (ls, .ref 0 :: st, wB w, nc, ns) = hv_nx ls (.int (w_sc w 13) :: st) (wB w) nc ns := rfl
theorem pf_13 {x : Int32} : hv_step cm vk dv hv_ft mc ms rt call (.putfield 1013) (ls, .int x :: .ref 0 :: st, wB w, nc, ns) = hv_nx ls st (wB (s_sc w 13 x)) nc ns := by simp [st_putfield, wr_0, hv_ft, tyX10, k_fi32, wp_13]
theorem gf_14 {ft : Nat → Nat → FieldType} : hv_step cm vk dv ft mc ms rt call (.getfield 1014) (ls, .ref 0 :: st, wB w, nc, ns) = hv_nx ls (.int (w_sc w 14) :: st) (wB w) nc ns := rfl
theorem pf_14 {x : Int32} : hv_step cm vk dv hv_ft mc ms rt call (.putfield 1014) (ls, .int x :: .ref 0 :: st, wB w, nc, ns) = hv_nx ls st (wB (s_sc w 14 x)) nc ns := by simp [st_putfield, wr_0, hv_ft, tyX10, k_fi32, wp_14]
theorem gf_100 {ft : Nat → Nat → FieldType} : hv_step cm vk dv ft mc ms rt call (.getfield 900) (ls, .ref 1 :: st, wB w, nc, ns) = hv_nx ls (.ref 2 :: st) (wB w) nc ns := rfl
theorem gf_101 {ft : Nat → Nat → FieldType} : hv_step cm vk dv ft mc ms rt call (.getfield 901) (ls, .ref 1 :: st, wB w, nc, ns) = hv_nx ls (.ref 4 :: st) (wB w) nc ns := rfl
theorem gf_102 {ft : Nat → Nat → FieldType} : hv_step cm vk dv ft mc ms rt call (.getfield 902) (ls, .ref 1 :: st, wB w, nc, ns) = hv_nx ls (.ref 5 :: st) (wB w) nc ns := rfl
theorem gf_103 {ft : Nat → Nat → FieldType} : hv_step cm vk dv ft mc ms rt call (.getfield 903) (ls, .ref 1 :: st, wB w, nc, ns) = hv_nx ls (.ref 6 :: st) (wB w) nc ns := rfl
theorem gf_104 {ft : Nat → Nat → FieldType} : hv_step cm vk dv ft mc ms rt call (.getfield 904) (ls, .ref 1 :: st, wB w, nc, ns) = hv_nx ls (.int (w_sc w 104) :: st) (wB w) nc ns := rfl
theorem pf_104 {x : Int32} : hv_step cm vk dv hv_ft mc ms rt call (.putfield 904) (ls, .int x :: .ref 1 :: st, wB w, nc, ns) = hv_nx ls st (wB (s_sc w 104 x)) nc ns := by simp [st_putfield, wr_1, hv_ft, tyX9, k_fi32, wp_104]
theorem gf_105 {ft : Nat → Nat → FieldType} : hv_step cm vk dv ft mc ms rt call (.getfield 905) (ls, .ref 1 :: st, wB w, nc, ns) = hv_nx ls (.int (w_sc w 105) :: st) (wB w) nc ns := rfl
theorem pf_105 {x : Int32} : hv_step cm vk dv hv_ft mc ms rt call (.putfield 905) (ls, .int x :: .ref 1 :: st, wB w, nc, ns) = hv_nx ls st (wB (s_sc w 105 x)) nc ns := by simp [st_putfield, wr_1, hv_ft, tyX9, k_fi32, wp_105]
theorem gf_106 {ft : Nat → Nat → FieldType} : hv_step cm vk dv ft mc ms rt call (.getfield 906) (ls, .ref 1 :: st, wB w, nc, ns) = hv_nx ls (.int (w_sc w 106) :: st) (wB w) nc ns := rfl
theorem pf_106 {x : Int32} : hv_step cm vk dv hv_ft mc ms rt call (.putfield 906) (ls, .int x :: .ref 1 :: st, wB w, nc, ns) = hv_nx ls st (wB (s_sc w 106 x)) nc ns := by simp [st_putfield, wr_1, hv_ft, tyX9, k_fi32, wp_106]
theorem gf_200 {ft : Nat → Nat → FieldType} : hv_step cm vk dv ft mc ms rt call (.getfield 300) (ls, .ref 2 :: st, wB w, nc, ns) = hv_nx ls (.ref 3 :: st) (wB w) nc ns := rfl
theorem gf_800 {ft : Nat → Nat → FieldType} : hv_step cm vk dv ft mc ms rt call (.getfield 400) (ls, .ref 8 :: st, wB w, nc, ns) = hv_nx ls (.ref 9 :: st) (wB w) nc ns := rfl
theorem gf_801 {ft : Nat → Nat → FieldType} : hv_step cm vk dv ft mc ms rt call (.getfield 401) (ls, .ref 8 :: st, wB w, nc, ns) = hv_nx ls (.int (w_sc w 801) :: st) (wB w) nc ns := rfl
theorem pf_801 {x : Int32} : hv_step cm vk dv hv_ft mc ms rt call (.putfield 401) (ls, .int x :: .ref 8 :: st, wB w, nc, ns) = hv_nx ls st (wB (s_sc w 801 x)) nc ns := by simp [st_putfield, wr_8, hv_ft, tyX4, k_fi32, wp_801]
theorem gf_802 {ft : Nat → Nat → FieldType} : hv_step cm vk dv ft mc ms rt call (.getfield 402) (ls, .ref 8 :: st, wB w, nc, ns) = hv_nx ls (.int (w_sc w 802) :: st) (wB w) nc ns := rfl
theorem pf_802 {x : Int32} : hv_step cm vk dv hv_ft mc ms rt call (.putfield 402) (ls, .int x :: .ref 8 :: st, wB w, nc, ns) = hv_nx ls st (wB (s_sc w 802 x)) nc ns := by simp [st_putfield, wr_8, hv_ft, tyX4, k_fi32, wp_802]
theorem gf_1000 {ft : Nat → Nat → FieldType} : hv_step cm vk dv ft mc ms rt call (.getfield 700) (ls, .ref 10 :: st, wB w, nc, ns) = hv_nx ls (.ref 8 :: st) (wB w) nc ns := rfl
theorem gf_1001 {ft : Nat → Nat → FieldType} : hv_step cm vk dv ft mc ms rt call (.getfield 701) (ls, .ref 10 :: st, wB w, nc, ns) = hv_nx ls (.ref 11 :: st) (wB w) nc ns := rfl
theorem gf_1002 {ft : Nat → Nat → FieldType} : hv_step cm vk dv ft mc ms rt call (.getfield 702) (ls, .ref 10 :: st, wB w, nc, ns) = hv_nx ls (.ref (w_rh w) :: st) (wB w) nc ns := rfl
theorem pf_rh {x : Nat} : hv_step cm vk dv hv_ft mc ms rt call (.putfield 702) (ls, .ref x :: .ref 10 :: st, wB w, nc, ns) = hv_nx ls st (wB (s_rh w x)) nc ns := by simp [st_putfield, wr_10, hv_ft, tyX7, k_fref, wp_rh]
theorem gf_1003 {ft : Nat → Nat → FieldType} : hv_step cm vk dv ft mc ms rt call (.getfield 703) (ls, .ref 10 :: st, wB w, nc, ns) = hv_nx ls (va_rf (w_rl w) :: st) (wB w) nc ns := rfl
theorem pf_rl {x : Nat} : hv_step cm vk dv hv_ft mc ms rt call (.putfield 703) (ls, .ref x :: .ref 10 :: st, wB w, nc, ns) = hv_nx ls st (wB (s_rl w (some x))) nc ns := by simp [st_putfield, wr_10, hv_ft, tyX7, k_fref, wp_rl]
theorem pf_rn : hv_step cm vk dv hv_ft mc ms rt call (.putfield 703) (ls, .null :: .ref 10 :: st, wB w, nc, ns) = hv_nx ls st (wB (s_rl w none)) nc ns := by simp [st_putfield, wr_10, hv_ft, tyX7, k_fnul, wp_rn]
theorem gf_1200 {ft : Nat → Nat → FieldType} : hv_step cm vk dv ft mc ms rt call (.getfield 0) (ls, .ref 12 :: st, wB w, nc, ns) = hv_nx ls (.ref 13 :: st) (wB w) nc ns := rfl
theorem gf_1201 {ft : Nat → Nat → FieldType} : hv_step cm vk dv ft mc ms rt call (.getfield 1) (ls, .ref 12 :: st, wB w, nc, ns) = hv_nx ls (.ref 14 :: st) (wB w) nc ns := rfl
theorem gf_1202 {ft : Nat → Nat → FieldType} : hv_step cm vk dv ft mc ms rt call (.getfield 2) (ls, .ref 12 :: st, wB w, nc, ns) = hv_nx ls (.ref 15 :: st) (wB w) nc ns := rfl
theorem gf_1203 {ft : Nat → Nat → FieldType} : hv_step cm vk dv ft mc ms rt call (.getfield 3) (ls, .ref 12 :: st, wB w, nc, ns) = hv_nx ls (.ref 16 :: st) (wB w) nc ns := rfl
theorem gf_1204 {ft : Nat → Nat → FieldType} : hv_step cm vk dv ft mc ms rt call (.getfield 4) (ls, .ref 12 :: st, wB w, nc, ns) = hv_nx ls (.ref 17 :: st) (wB w) nc ns := rfl
theorem gf_1205 {ft : Nat → Nat → FieldType} : hv_step cm vk dv ft mc ms rt call (.getfield 5) (ls, .ref 12 :: st, wB w, nc, ns) = hv_nx ls (.int (w_sc w 1205) :: st) (wB w) nc ns := rfl
theorem pf_1205 {x : Int32} : hv_step cm vk dv hv_ft mc ms rt call (.putfield 5) (ls, .int x :: .ref 12 :: st, wB w, nc, ns) = if hv_fok .boolean (.int x) = true then hv_nx ls st (wB (s_sc w 1205 x)) nc ns else none := by simp [st_putfield, wr_12, hv_ft, tyX0, wp_1205]
theorem gf_1206 {ft : Nat → Nat → FieldType} : hv_step cm vk dv ft mc ms rt call (.getfield 6) (ls, .ref 12 :: st, wB w, nc, ns) = hv_nx ls (.int (w_sc w 1206) :: st) (wB w) nc ns := rfl
theorem pf_1206 {x : Int32} : hv_step cm vk dv hv_ft mc ms rt call (.putfield 6) (ls, .int x :: .ref 12 :: st, wB w, nc, ns) = if hv_fok .boolean (.int x) = true then hv_nx ls st (wB (s_sc w 1206 x)) nc ns else none := by simp [st_putfield, wr_12, hv_ft, tyX0, wp_1206]
theorem gf_1800 {ft : Nat → Nat → FieldType} : hv_step cm vk dv ft mc ms rt call (.getfield 500) (ls, .ref 18 :: st, wB w, nc, ns) = hv_nx ls (.ref 10 :: st) (wB w) nc ns := rfl
theorem gf_1801 {ft : Nat → Nat → FieldType} : hv_step cm vk dv ft mc ms rt call (.getfield 501) (ls, .ref 18 :: st, wB w, nc, ns) = hv_nx ls (.ref 12 :: st) (wB w) nc ns := rfl
theorem gf_1802 {ft : Nat → Nat → FieldType} : hv_step cm vk dv ft mc ms rt call (.getfield 502) (ls, .ref 18 :: st, wB w, nc, ns) = hv_nx ls (.ref 19 :: st) (wB w) nc ns := rfl
theorem gf_1803 {ft : Nat → Nat → FieldType} : hv_step cm vk dv ft mc ms rt call (.getfield 503) (ls, .ref 18 :: st, wB w, nc, ns) = hv_nx ls (.ref 21 :: st) (wB w) nc ns := rfl
theorem gf_1804 {ft : Nat → Nat → FieldType} : hv_step cm vk dv ft mc ms rt call (.getfield 504) (ls, .ref 18 :: st, wB w, nc, ns) = hv_nx ls (.ref 23 :: st) (wB w) nc ns := rfl
theorem gf_1805 {ft : Nat → Nat → FieldType} : hv_step cm vk dv ft mc ms rt call (.getfield 505) (ls, .ref 18 :: st, wB w, nc, ns) = hv_nx ls (.int (w_sc w 1805) :: st) (wB w) nc ns := rfl
theorem pf_1805 {x : Int32} : hv_step cm vk dv hv_ft mc ms rt call (.putfield 505) (ls, .int x :: .ref 18 :: st, wB w, nc, ns) = hv_nx ls st (wB (s_sc w 1805 x)) nc ns := by simp [st_putfield, wr_18, hv_ft, tyX5, k_fi32, wp_1805]
theorem gf_1900 {ft : Nat → Nat → FieldType} : hv_step cm vk dv ft mc ms rt call (.getfield 300) (ls, .ref 19 :: st, wB w, nc, ns) = hv_nx ls (.ref 20 :: st) (wB w) nc ns := rfl
theorem gf_2100 {ft : Nat → Nat → FieldType} : hv_step cm vk dv ft mc ms rt call (.getfield 300) (ls, .ref 21 :: st, wB w, nc, ns) = hv_nx ls (.ref 22 :: st) (wB w) nc ns := rfl
theorem gf_2400 {ft : Nat → Nat → FieldType} : hv_step cm vk dv ft mc ms rt call (.getfield 200) (ls, .ref 24 :: st, wB w, nc, ns) = hv_nx ls (.ref 1 :: st) (wB w) nc ns := rfl
theorem gf_2401 {ft : Nat → Nat → FieldType} : hv_step cm vk dv ft mc ms rt call (.getfield 201) (ls, .ref 24 :: st, wB w, nc, ns) = hv_nx ls (.ref 2 :: st) (wB w) nc ns := rfl
theorem gf_2402 {ft : Nat → Nat → FieldType} : hv_step cm vk dv ft mc ms rt call (.getfield 202) (ls, .ref 24 :: st, wB w, nc, ns) = hv_nx ls (.ref 10 :: st) (wB w) nc ns := rfl
theorem gf_2403 {ft : Nat → Nat → FieldType} : hv_step cm vk dv ft mc ms rt call (.getfield 203) (ls, .ref 24 :: st, wB w, nc, ns) = hv_nx ls (.ref 8 :: st) (wB w) nc ns := rfl
theorem gf_2404 {ft : Nat → Nat → FieldType} : hv_step cm vk dv ft mc ms rt call (.getfield 204) (ls, .ref 24 :: st, wB w, nc, ns) = hv_nx ls (.ref 25 :: st) (wB w) nc ns := rfl
theorem gf_2405 {ft : Nat → Nat → FieldType} : hv_step cm vk dv ft mc ms rt call (.getfield 205) (ls, .ref 24 :: st, wB w, nc, ns) = hv_nx ls (.ref 28 :: st) (wB w) nc ns := rfl
theorem gf_2406 {ft : Nat → Nat → FieldType} : hv_step cm vk dv ft mc ms rt call (.getfield 206) (ls, .ref 24 :: st, wB w, nc, ns) = hv_nx ls (.ref 31 :: st) (wB w) nc ns := rfl
theorem gf_2407 {ft : Nat → Nat → FieldType} : hv_step cm vk dv ft mc ms rt call (.getfield 207) (ls, .ref 24 :: st, wB w, nc, ns) = hv_nx ls (.ref 33 :: st) (wB w) nc ns := rfl
theorem gf_2408 {ft : Nat → Nat → FieldType} : hv_step cm vk dv ft mc ms rt call (.getfield 208) (ls, .ref 24 :: st, wB w, nc, ns) = hv_nx ls (.int (w_sc w 2408) :: st) (wB w) nc ns := rfl
theorem pf_2408 {x : Int32} : hv_step cm vk dv hv_ft mc ms rt call (.putfield 208) (ls, .int x :: .ref 24 :: st, wB w, nc, ns) = hv_nx ls st (wB (s_sc w 2408 x)) nc ns := by simp [st_putfield, wr_24, hv_ft, tyX2, k_fi32, wp_2408]
theorem gf_2409 {ft : Nat → Nat → FieldType} : hv_step cm vk dv ft mc ms rt call (.getfield 209) (ls, .ref 24 :: st, wB w, nc, ns) = hv_nx ls (.int (w_sc w 2409) :: st) (wB w) nc ns := rfl
theorem pf_2409 {x : Int32} : hv_step cm vk dv hv_ft mc ms rt call (.putfield 209) (ls, .int x :: .ref 24 :: st, wB w, nc, ns) = hv_nx ls st (wB (s_sc w 2409 x)) nc ns := by simp [st_putfield, wr_24, hv_ft, tyX2, k_fi32, wp_2409]
theorem gf_2410 {ft : Nat → Nat → FieldType} : hv_step cm vk dv ft mc ms rt call (.getfield 210) (ls, .ref 24 :: st, wB w, nc, ns) = hv_nx ls (.int (w_sc w 2410) :: st) (wB w) nc ns := rfl
theorem pf_2410 {x : Int32} : hv_step cm vk dv hv_ft mc ms rt call (.putfield 210) (ls, .int x :: .ref 24 :: st, wB w, nc, ns) = hv_nx ls st (wB (s_sc w 2410 x)) nc ns := by simp [st_putfield, wr_24, hv_ft, tyX2, k_fi32, wp_2410]
theorem gf_2500 {ft : Nat → Nat → FieldType} : hv_step cm vk dv ft mc ms rt call (.getfield 800) (ls, .ref 25 :: st, wB w, nc, ns) = hv_nx ls (.ref 26 :: st) (wB w) nc ns := rfl
theorem gf_2501 {ft : Nat → Nat → FieldType} : hv_step cm vk dv ft mc ms rt call (.getfield 801) (ls, .ref 25 :: st, wB w, nc, ns) = hv_nx ls (.ref 27 :: st) (wB w) nc ns := rfl
theorem gf_2502 {ft : Nat → Nat → FieldType} : hv_step cm vk dv ft mc ms rt call (.getfield 802) (ls, .ref 25 :: st, wB w, nc, ns) = hv_nx ls (.int (w_sc w 2502) :: st) (wB w) nc ns := rfl
theorem pf_2502 {x : Int32} : hv_step cm vk dv hv_ft mc ms rt call (.putfield 802) (ls, .int x :: .ref 25 :: st, wB w, nc, ns) = hv_nx ls st (wB (s_sc w 2502 x)) nc ns := by simp [st_putfield, wr_25, hv_ft, tyX8, k_fi32, wp_2502]
theorem gf_2800 {ft : Nat → Nat → FieldType} : hv_step cm vk dv ft mc ms rt call (.getfield 800) (ls, .ref 28 :: st, wB w, nc, ns) = hv_nx ls (.ref 29 :: st) (wB w) nc ns := rfl
theorem gf_2801 {ft : Nat → Nat → FieldType} : hv_step cm vk dv ft mc ms rt call (.getfield 801) (ls, .ref 28 :: st, wB w, nc, ns) = hv_nx ls (.ref 30 :: st) (wB w) nc ns := rfl
theorem gf_2802 {ft : Nat → Nat → FieldType} : hv_step cm vk dv ft mc ms rt call (.getfield 802) (ls, .ref 28 :: st, wB w, nc, ns) = hv_nx ls (.int (w_sc w 2802) :: st) (wB w) nc ns := rfl
theorem pf_2802 {x : Int32} : hv_step cm vk dv hv_ft mc ms rt call (.putfield 802) (ls, .int x :: .ref 28 :: st, wB w, nc, ns) = hv_nx ls st (wB (s_sc w 2802 x)) nc ns := by simp [st_putfield, wr_28, hv_ft, tyX8, k_fi32, wp_2802]
theorem gf_3100 {ft : Nat → Nat → FieldType} : hv_step cm vk dv ft mc ms rt call (.getfield 300) (ls, .ref 31 :: st, wB w, nc, ns) = hv_nx ls (.ref 32 :: st) (wB w) nc ns := rfl
theorem gf_3500 {ft : Nat → Nat → FieldType} : hv_step cm vk dv ft mc ms rt call (.getfield 600) (ls, .ref 35 :: st, wB w, nc, ns) = hv_nx ls (.ref 34 :: st) (wB w) nc ns := rfl
theorem gf_3501 {ft : Nat → Nat → FieldType} : hv_step cm vk dv ft mc ms rt call (.getfield 601) (ls, .ref 35 :: st, wB w, nc, ns) = hv_nx ls (.ref 36 :: st) (wB w) nc ns := rfl
theorem gf_3502 {ft : Nat → Nat → FieldType} : hv_step cm vk dv ft mc ms rt call (.getfield 602) (ls, .ref 35 :: st, wB w, nc, ns) = hv_nx ls (.int (w_sc w 3502) :: st) (wB w) nc ns := rfl
theorem pf_3502 {x : Int32} : hv_step cm vk dv hv_ft mc ms rt call (.putfield 602) (ls, .int x :: .ref 35 :: st, wB w, nc, ns) = hv_nx ls st (wB (s_sc w 3502 x)) nc ns := by simp [st_putfield, wr_35, hv_ft, tyX6, k_fi32, wp_3502]
theorem gf_3503 {ft : Nat → Nat → FieldType} : hv_step cm vk dv ft mc ms rt call (.getfield 603) (ls, .ref 35 :: st, wB w, nc, ns) = hv_nx ls (.int (w_sc w 3503) :: st) (wB w) nc ns := rfl
theorem pf_3503 {x : Int32} : hv_step cm vk dv hv_ft mc ms rt call (.putfield 603) (ls, .int x :: .ref 35 :: st, wB w, nc, ns) = if hv_fok .boolean (.int x) = true then hv_nx ls st (wB (s_sc w 3503 x)) nc ns else none := by simp [st_putfield, wr_35, hv_ft, tyX6, wp_3503]
theorem gf_3504 {ft : Nat → Nat → FieldType} : hv_step cm vk dv ft mc ms rt call (.getfield 604) (ls, .ref 35 :: st, wB w, nc, ns) = hv_nx ls (.int (w_sc w 3504) :: st) (wB w) nc ns := rfl
theorem pf_3504 {x : Int32} : hv_step cm vk dv hv_ft mc ms rt call (.putfield 604) (ls, .int x :: .ref 35 :: st, wB w, nc, ns) = hv_nx ls st (wB (s_sc w 3504 x)) nc ns := by simp [st_putfield, wr_35, hv_ft, tyX6, k_fi32, wp_3504]
theorem gf_3505 {ft : Nat → Nat → FieldType} : hv_step cm vk dv ft mc ms rt call (.getfield 605) (ls, .ref 35 :: st, wB w, nc, ns) = hv_nx ls (.int (w_sc w 3505) :: st) (wB w) nc ns := rfl
theorem pf_3505 {x : Int32} : hv_step cm vk dv hv_ft mc ms rt call (.putfield 605) (ls, .int x :: .ref 35 :: st, wB w, nc, ns) = hv_nx ls st (wB (s_sc w 3505 x)) nc ns := by simp [st_putfield, wr_35, hv_ft, tyX6, k_fi32, wp_3505]
theorem gf_3506 {ft : Nat → Nat → FieldType} : hv_step cm vk dv ft mc ms rt call (.getfield 606) (ls, .ref 35 :: st, wB w, nc, ns) = hv_nx ls (.int (w_sc w 3506) :: st) (wB w) nc ns := rfl
theorem pf_3506 {x : Int32} : hv_step cm vk dv hv_ft mc ms rt call (.putfield 606) (ls, .int x :: .ref 35 :: st, wB w, nc, ns) = hv_nx ls st (wB (s_sc w 3506 x)) nc ns := by simp [st_putfield, wr_35, hv_ft, tyX6, k_fi32, wp_3506]
theorem gf_3507 {ft : Nat → Nat → FieldType} : hv_step cm vk dv ft mc ms rt call (.getfield 607) (ls, .ref 35 :: st, wB w, nc, ns) = hv_nx ls (.int (w_sc w 3507) :: st) (wB w) nc ns := rfl
theorem pf_3507 {x : Int32} : hv_step cm vk dv hv_ft mc ms rt call (.putfield 607) (ls, .int x :: .ref 35 :: st, wB w, nc, ns) = hv_nx ls st (wB (s_sc w 3507 x)) nc ns := by simp [st_putfield, wr_35, hv_ft, tyX6, k_fi32, wp_3507]
theorem gf_3508 {ft : Nat → Nat → FieldType} : hv_step cm vk dv ft mc ms rt call (.getfield 608) (ls, .ref 35 :: st, wB w, nc, ns) = hv_nx ls (.int (w_sc w 3508) :: st) (wB w) nc ns := rfl
theorem pf_3508 {x : Int32} : hv_step cm vk dv hv_ft mc ms rt call (.putfield 608) (ls, .int x :: .ref 35 :: st, wB w, nc, ns) = hv_nx ls st (wB (s_sc w 3508 x)) nc ns := by simp [st_putfield, wr_35, hv_ft, tyX6, k_fi32, wp_3508]
theorem gf_3600 {ft : Nat → Nat → FieldType} : hv_step cm vk dv ft mc ms rt call (.getfield 100) (ls, .ref 36 :: st, wB w, nc, ns) = hv_nx ls (.ref 37 :: st) (wB w) nc ns := rfl
theorem gf_3601 {ft : Nat → Nat → FieldType} : hv_step cm vk dv ft mc ms rt call (.getfield 101) (ls, .ref 36 :: st, wB w, nc, ns) = hv_nx ls (.ref 38 :: st) (wB w) nc ns := rfl
theorem gf_3602 {ft : Nat → Nat → FieldType} : hv_step cm vk dv ft mc ms rt call (.getfield 102) (ls, .ref 36 :: st, wB w, nc, ns) = hv_nx ls (.int (w_sc w 3602) :: st) (wB w) nc ns := rfl
theorem pf_3602 {x : Int32} : hv_step cm vk dv hv_ft mc ms rt call (.putfield 102) (ls, .int x :: .ref 36 :: st, wB w, nc, ns) = hv_nx ls st (wB (s_sc w 3602 x)) nc ns := by simp [st_putfield, wr_36, hv_ft, tyX1, k_fi32, wp_3602]
theorem gf_3603 {ft : Nat → Nat → FieldType} : hv_step cm vk dv ft mc ms rt call (.getfield 103) (ls, .ref 36 :: st, wB w, nc, ns) = hv_nx ls (.int (w_sc w 3603) :: st) (wB w) nc ns := rfl
theorem pf_3603 {x : Int32} : hv_step cm vk dv hv_ft mc ms rt call (.putfield 103) (ls, .int x :: .ref 36 :: st, wB w, nc, ns) = hv_nx ls st (wB (s_sc w 3603 x)) nc ns := by simp [st_putfield, wr_36, hv_ft, tyX1, k_fi32, wp_3603]
theorem gf_4000 {ft : Nat → Nat → FieldType} : hv_step cm vk dv ft mc ms rt call (.getfield 1100) (ls, .ref 40 :: st, wB w, nc, ns) = hv_nx ls (.int (w_sc w 4000) :: st) (wB w) nc ns := rfl
theorem pf_4000 {x : Int32} : hv_step cm vk dv hv_ft mc ms rt call (.putfield 1100) (ls, .int x :: .ref 40 :: st, wB w, nc, ns) = hv_nx ls st (wB (s_sc w 4000 x)) nc ns := by simp [st_putfield, wr_40, hv_ft, tyX11, k_fi32, wp_4000]
theorem gf_4001 {ft : Nat → Nat → FieldType} : hv_step cm vk dv ft mc ms rt call (.getfield 1101) (ls, .ref 40 :: st, wB w, nc, ns) = hv_nx ls (.ref 41 :: st) (wB w) nc ns := rfl
theorem gf_4002 {ft : Nat → Nat → FieldType} : hv_step cm vk dv ft mc ms rt call (.getfield 1102) (ls, .ref 40 :: st, wB w, nc, ns) = hv_nx ls (.ref 42 :: st) (wB w) nc ns := rfl
theorem gf_4003 {ft : Nat → Nat → FieldType} : hv_step cm vk dv ft mc ms rt call (.getfield 1103) (ls, .ref 40 :: st, wB w, nc, ns) = hv_nx ls (.ref 43 :: st) (wB w) nc ns := rfl
theorem gf_4004 {ft : Nat → Nat → FieldType} : hv_step cm vk dv ft mc ms rt call (.getfield 1104) (ls, .ref 40 :: st, wB w, nc, ns) = hv_nx ls (.ref 44 :: st) (wB w) nc ns := rfl
theorem gf_4005 {ft : Nat → Nat → FieldType} : hv_step cm vk dv ft mc ms rt call (.getfield 1105) (ls, .ref 40 :: st, wB w, nc, ns) = hv_nx ls (.ref 45 :: st) (wB w) nc ns := rfl
theorem gf_4006 {ft : Nat → Nat → FieldType} : hv_step cm vk dv ft mc ms rt call (.getfield 1106) (ls, .ref 40 :: st, wB w, nc, ns) = hv_nx ls (.int (w_sc w 4006) :: st) (wB w) nc ns := rfl
theorem pf_4006 {x : Int32} : hv_step cm vk dv hv_ft mc ms rt call (.putfield 1106) (ls, .int x :: .ref 40 :: st, wB w, nc, ns) = hv_nx ls st (wB (s_sc w 4006 x)) nc ns := by simp [st_putfield, wr_40, hv_ft, tyX11, k_fi32, wp_4006]
theorem gf_4007 {ft : Nat → Nat → FieldType} : hv_step cm vk dv ft mc ms rt call (.getfield 1107) (ls, .ref 40 :: st, wB w, nc, ns) = hv_nx ls (.ref 46 :: st) (wB w) nc ns := rfl
theorem gf_4008 {ft : Nat → Nat → FieldType} : hv_step cm vk dv ft mc ms rt call (.getfield 1108) (ls, .ref 40 :: st, wB w, nc, ns) = hv_nx ls (.int (w_sc w 4008) :: st) (wB w) nc ns := rfl
theorem pf_4008 {x : Int32} : hv_step cm vk dv hv_ft mc ms rt call (.putfield 1108) (ls, .int x :: .ref 40 :: st, wB w, nc, ns) = hv_nx ls st (wB (s_sc w 4008 x)) nc ns := by simp [st_putfield, wr_40, hv_ft, tyX11, k_fi32, wp_4008]
theorem gf_4009 {ft : Nat → Nat → FieldType} : hv_step cm vk dv ft mc ms rt call (.getfield 1109) (ls, .ref 40 :: st, wB w, nc, ns) = hv_nx ls (.int (w_sc w 4009) :: st) (wB w) nc ns := rfl
theorem pf_4009 {x : Int32} : hv_step cm vk dv hv_ft mc ms rt call (.putfield 1109) (ls, .int x :: .ref 40 :: st, wB w, nc, ns) = hv_nx ls st (wB (s_sc w 4009 x)) nc ns := by simp [st_putfield, wr_40, hv_ft, tyX11, k_fi32, wp_4009]
theorem gf_4010 {ft : Nat → Nat → FieldType} : hv_step cm vk dv ft mc ms rt call (.getfield 1110) (ls, .ref 40 :: st, wB w, nc, ns) = hv_nx ls (.int (w_sc w 4010) :: st) (wB w) nc ns := rfl
theorem pf_4010 {x : Int32} : hv_step cm vk dv hv_ft mc ms rt call (.putfield 1110) (ls, .int x :: .ref 40 :: st, wB w, nc, ns) = if hv_fok .boolean (.int x) = true then hv_nx ls st (wB (s_sc w 4010 x)) nc ns else none := by simp [st_putfield, wr_40, hv_ft, tyX11, wp_4010]
theorem gf_4011 {ft : Nat → Nat → FieldType} : hv_step cm vk dv ft mc ms rt call (.getfield 1111) (ls, .ref 40 :: st, wB w, nc, ns) = hv_nx ls (.ref 47 :: st) (wB w) nc ns := rfl
theorem gf_4012 {ft : Nat → Nat → FieldType} : hv_step cm vk dv ft mc ms rt call (.getfield 1112) (ls, .ref 40 :: st, wB w, nc, ns) = hv_nx ls (.ref 48 :: st) (wB w) nc ns := rfl
theorem gf_4013 {ft : Nat → Nat → FieldType} : hv_step cm vk dv ft mc ms rt call (.getfield 1113) (ls, .ref 40 :: st, wB w, nc, ns) = hv_nx ls (.int (w_sc w 4013) :: st) (wB w) nc ns := rfl
theorem pf_4013 {x : Int32} : hv_step cm vk dv hv_ft mc ms rt call (.putfield 1113) (ls, .int x :: .ref 40 :: st, wB w, nc, ns) = hv_nx ls st (wB (s_sc w 4013 x)) nc ns := by simp [st_putfield, wr_40, hv_ft, tyX11, k_fi32, wp_4013]
theorem gf_4014 {ft : Nat → Nat → FieldType} : hv_step cm vk dv ft mc ms rt call (.getfield 1114) (ls, .ref 40 :: st, wB w, nc, ns) = hv_nx ls (.int (w_sc w 4014) :: st) (wB w) nc ns := rfl
theorem pf_4014 {x : Int32} : hv_step cm vk dv hv_ft mc ms rt call (.putfield 1114) (ls, .int x :: .ref 40 :: st, wB w, nc, ns) = hv_nx ls st (wB (s_sc w 4014 x)) nc ns := by simp [st_putfield, wr_40, hv_ft, tyX11, k_fi32, wp_4014]
theorem gf_4015 {ft : Nat → Nat → FieldType} : hv_step cm vk dv ft mc ms rt call (.getfield 1115) (ls, .ref 40 :: st, wB w, nc, ns) = hv_nx ls (.ref 49 :: st) (wB w) nc ns := rfl
theorem gf_4016 {ft : Nat → Nat → FieldType} : hv_step cm vk dv ft mc ms rt call (.getfield 1116) (ls, .ref 40 :: st, wB w, nc, ns) = hv_nx ls (.ref 50 :: st) (wB w) nc ns := rfl
theorem gf_4017 {ft : Nat → Nat → FieldType} : hv_step cm vk dv ft mc ms rt call (.getfield 1117) (ls, .ref 40 :: st, wB w, nc, ns) = hv_nx ls (.ref 51 :: st) (wB w) nc ns := rfl
theorem gf_4018 {ft : Nat → Nat → FieldType} : hv_step cm vk dv ft mc ms rt call (.getfield 1118) (ls, .ref 40 :: st, wB w, nc, ns) = hv_nx ls (.int (w_sc w 4018) :: st) (wB w) nc ns := rfl
theorem pf_4018 {x : Int32} : hv_step cm vk dv hv_ft mc ms rt call (.putfield 1118) (ls, .int x :: .ref 40 :: st, wB w, nc, ns) = hv_nx ls st (wB (s_sc w 4018 x)) nc ns := by simp [st_putfield, wr_40, hv_ft, tyX11, k_fi32, wp_4018]
theorem gf_4019 {ft : Nat → Nat → FieldType} : hv_step cm vk dv ft mc ms rt call (.getfield 1119) (ls, .ref 40 :: st, wB w, nc, ns) = hv_nx ls (.int (w_sc w 4019) :: st) (wB w) nc ns := rfl
theorem pf_4019 {x : Int32} : hv_step cm vk dv hv_ft mc ms rt call (.putfield 1119) (ls, .int x :: .ref 40 :: st, wB w, nc, ns) = hv_nx ls st (wB (s_sc w 4019 x)) nc ns := by simp [st_putfield, wr_40, hv_ft, tyX11, k_fi32, wp_4019]
theorem gf_4020 {ft : Nat → Nat → FieldType} : hv_step cm vk dv ft mc ms rt call (.getfield 1120) (ls, .ref 40 :: st, wB w, nc, ns) = hv_nx ls (.int (w_sc w 4020) :: st) (wB w) nc ns := rfl
theorem pf_4020 {x : Int32} : hv_step cm vk dv hv_ft mc ms rt call (.putfield 1120) (ls, .int x :: .ref 40 :: st, wB w, nc, ns) = hv_nx ls st (wB (s_sc w 4020 x)) nc ns := by simp [st_putfield, wr_40, hv_ft, tyX11, k_fi32, wp_4020]
theorem gf_4021 {ft : Nat → Nat → FieldType} : hv_step cm vk dv ft mc ms rt call (.getfield 1121) (ls, .ref 40 :: st, wB w, nc, ns) = hv_nx ls (.int (w_sc w 4021) :: st) (wB w) nc ns := rfl
theorem pf_4021 {x : Int32} : hv_step cm vk dv hv_ft mc ms rt call (.putfield 1121) (ls, .int x :: .ref 40 :: st, wB w, nc, ns) = hv_nx ls st (wB (s_sc w 4021 x)) nc ns := by simp [st_putfield, wr_40, hv_ft, tyX11, k_fi32, wp_4021]
theorem gf_4022 {ft : Nat → Nat → FieldType} : hv_step cm vk dv ft mc ms rt call (.getfield 1122) (ls, .ref 40 :: st, wB w, nc, ns) = hv_nx ls (.int (w_sc w 4022) :: st) (wB w) nc ns := rfl
theorem pf_4022 {x : Int32} : hv_step cm vk dv hv_ft mc ms rt call (.putfield 1122) (ls, .int x :: .ref 40 :: st, wB w, nc, ns) = hv_nx ls st (wB (s_sc w 4022 x)) nc ns := by simp [st_putfield, wr_40, hv_ft, tyX11, k_fi32, wp_4022]
theorem gf_4023 {ft : Nat → Nat → FieldType} : hv_step cm vk dv ft mc ms rt call (.getfield 1123) (ls, .ref 40 :: st, wB w, nc, ns) = hv_nx ls (.int (w_sc w 4023) :: st) (wB w) nc ns := rfl
theorem pf_4023 {x : Int32} : hv_step cm vk dv hv_ft mc ms rt call (.putfield 1123) (ls, .int x :: .ref 40 :: st, wB w, nc, ns) = hv_nx ls st (wB (s_sc w 4023 x)) nc ns := by simp [st_putfield, wr_40, hv_ft, tyX11, k_fi32, wp_4023]
theorem gf_4024 {ft : Nat → Nat → FieldType} : hv_step cm vk dv ft mc ms rt call (.getfield 1124) (ls, .ref 40 :: st, wB w, nc, ns) = hv_nx ls (.int (w_sc w 4024) :: st) (wB w) nc ns := rfl
theorem pf_4024 {x : Int32} : hv_step cm vk dv hv_ft mc ms rt call (.putfield 1124) (ls, .int x :: .ref 40 :: st, wB w, nc, ns) = if hv_fok .boolean (.int x) = true then hv_nx ls st (wB (s_sc w 4024 x)) nc ns else none := by simp [st_putfield, wr_40, hv_ft, tyX11, wp_4024]
theorem gf_4025 {ft : Nat → Nat → FieldType} : hv_step cm vk dv ft mc ms rt call (.getfield 1125) (ls, .ref 40 :: st, wB w, nc, ns) = hv_nx ls (.int (w_sc w 4025) :: st) (wB w) nc ns := rfl
theorem pf_4025 {x : Int32} : hv_step cm vk dv hv_ft mc ms rt call (.putfield 1125) (ls, .int x :: .ref 40 :: st, wB w, nc, ns) = if hv_fok .boolean (.int x) = true then hv_nx ls st (wB (s_sc w 4025 x)) nc ns else none := by simp [st_putfield, wr_40, hv_ft, tyX11, wp_4025]
theorem gf_4026 {ft : Nat → Nat → FieldType} : hv_step cm vk dv ft mc ms rt call (.getfield 1126) (ls, .ref 40 :: st, wB w, nc, ns) = hv_nx ls (.ref 52 :: st) (wB w) nc ns := rfl
theorem gf_4027 {ft : Nat → Nat → FieldType} : hv_step cm vk dv ft mc ms rt call (.getfield 1127) (ls, .ref 40 :: st, wB w, nc, ns) = hv_nx ls (.int (w_sc w 4027) :: st) (wB w) nc ns := rfl
theorem pf_4027 {x : Int32} : hv_step cm vk dv hv_ft mc ms rt call (.putfield 1127) (ls, .int x :: .ref 40 :: st, wB w, nc, ns) = hv_nx ls st (wB (s_sc w 4027 x)) nc ns := by simp [st_putfield, wr_40, hv_ft, tyX11, k_fi32, wp_4027]
theorem gf_4028 {ft : Nat → Nat → FieldType} : hv_step cm vk dv ft mc ms rt call (.getfield 1128) (ls, .ref 40 :: st, wB w, nc, ns) = hv_nx ls (.int (w_sc w 4028) :: st) (wB w) nc ns := rfl
theorem pf_4028 {x : Int32} : hv_step cm vk dv hv_ft mc ms rt call (.putfield 1128) (ls, .int x :: .ref 40 :: st, wB w, nc, ns) = hv_nx ls st (wB (s_sc w 4028 x)) nc ns := by simp [st_putfield, wr_40, hv_ft, tyX11, k_fi32, wp_4028]
theorem gf_4029 {ft : Nat → Nat → FieldType} : hv_step cm vk dv ft mc ms rt call (.getfield 1129) (ls, .ref 40 :: st, wB w, nc, ns) = hv_nx ls (.ref 53 :: st) (wB w) nc ns := rfl
theorem gf_4030 {ft : Nat → Nat → FieldType} : hv_step cm vk dv ft mc ms rt call (.getfield 1130) (ls, .ref 40 :: st, wB w, nc, ns) = hv_nx ls (.ref 54 :: st) (wB w) nc ns := rfl
theorem gf_4031 {ft : Nat → Nat → FieldType} : hv_step cm vk dv ft mc ms rt call (.getfield 1131) (ls, .ref 40 :: st, wB w, nc, ns) = hv_nx ls (.ref 55 :: st) (wB w) nc ns := rfl
theorem gf_4032 {ft : Nat → Nat → FieldType} : hv_step cm vk dv ft mc ms rt call (.getfield 1132) (ls, .ref 40 :: st, wB w, nc, ns) = hv_nx ls (.int (w_sc w 4032) :: st) (wB w) nc ns := rfl
theorem pf_4032 {x : Int32} : hv_step cm vk dv hv_ft mc ms rt call (.putfield 1132) (ls, .int x :: .ref 40 :: st, wB w, nc, ns) = hv_nx ls st (wB (s_sc w 4032 x)) nc ns := by simp [st_putfield, wr_40, hv_ft, tyX11, k_fi32, wp_4032]
theorem gf_4033 {ft : Nat → Nat → FieldType} : hv_step cm vk dv ft mc ms rt call (.getfield 1133) (ls, .ref 40 :: st, wB w, nc, ns) = hv_nx ls (.ref 56 :: st) (wB w) nc ns := rfl
theorem gf_4034 {ft : Nat → Nat → FieldType} : hv_step cm vk dv ft mc ms rt call (.getfield 1134) (ls, .ref 40 :: st, wB w, nc, ns) = hv_nx ls (.ref 57 :: st) (wB w) nc ns := rfl
theorem gf_4035 {ft : Nat → Nat → FieldType} : hv_step cm vk dv ft mc ms rt call (.getfield 1135) (ls, .ref 40 :: st, wB w, nc, ns) = hv_nx ls (.ref 58 :: st) (wB w) nc ns := rfl
theorem gf_4036 {ft : Nat → Nat → FieldType} : hv_step cm vk dv ft mc ms rt call (.getfield 1136) (ls, .ref 40 :: st, wB w, nc, ns) = hv_nx ls (.ref 59 :: st) (wB w) nc ns := rfl
theorem gf_4037 {ft : Nat → Nat → FieldType} : hv_step cm vk dv ft mc ms rt call (.getfield 1137) (ls, .ref 40 :: st, wB w, nc, ns) = hv_nx ls (.ref 60 :: st) (wB w) nc ns := rfl
theorem gf_4038 {ft : Nat → Nat → FieldType} : hv_step cm vk dv ft mc ms rt call (.getfield 1138) (ls, .ref 40 :: st, wB w, nc, ns) = hv_nx ls (.ref 61 :: st) (wB w) nc ns := rfl
theorem gf_4039 {ft : Nat → Nat → FieldType} : hv_step cm vk dv ft mc ms rt call (.getfield 1139) (ls, .ref 40 :: st, wB w, nc, ns) = hv_nx ls (.int (w_sc w 4039) :: st) (wB w) nc ns := rfl
theorem pf_4039 {x : Int32} : hv_step cm vk dv hv_ft mc ms rt call (.putfield 1139) (ls, .int x :: .ref 40 :: st, wB w, nc, ns) = hv_nx ls st (wB (s_sc w 4039 x)) nc ns := by simp [st_putfield, wr_40, hv_ft, tyX11, k_fi32, wp_4039]
theorem gf_4040 {ft : Nat → Nat → FieldType} : hv_step cm vk dv ft mc ms rt call (.getfield 1140) (ls, .ref 40 :: st, wB w, nc, ns) = hv_nx ls (.int (w_sc w 4040) :: st) (wB w) nc ns := rfl
theorem pf_4040 {x : Int32} : hv_step cm vk dv hv_ft mc ms rt call (.putfield 1140) (ls, .int x :: .ref 40 :: st, wB w, nc, ns) = hv_nx ls st (wB (s_sc w 4040 x)) nc ns := by simp [st_putfield, wr_40, hv_ft, tyX11, k_fi32, wp_4040]
theorem gf_4041 {ft : Nat → Nat → FieldType} : hv_step cm vk dv ft mc ms rt call (.getfield 1141) (ls, .ref 40 :: st, wB w, nc, ns) = hv_nx ls (.ref 62 :: st) (wB w) nc ns := rfl
theorem gf_4042 {ft : Nat → Nat → FieldType} : hv_step cm vk dv ft mc ms rt call (.getfield 1142) (ls, .ref 40 :: st, wB w, nc, ns) = hv_nx ls (.ref 63 :: st) (wB w) nc ns := rfl
theorem gf_4043 {ft : Nat → Nat → FieldType} : hv_step cm vk dv ft mc ms rt call (.getfield 1143) (ls, .ref 40 :: st, wB w, nc, ns) = hv_nx ls (.int (w_sc w 4043) :: st) (wB w) nc ns := rfl
theorem pf_4043 {x : Int32} : hv_step cm vk dv hv_ft mc ms rt call (.putfield 1143) (ls, .int x :: .ref 40 :: st, wB w, nc, ns) = hv_nx ls st (wB (s_sc w 4043 x)) nc ns := by simp [st_putfield, wr_40, hv_ft, tyX11, k_fi32, wp_4043]
theorem gf_4044 {ft : Nat → Nat → FieldType} : hv_step cm vk dv ft mc ms rt call (.getfield 1144) (ls, .ref 40 :: st, wB w, nc, ns) = hv_nx ls (.int (w_sc w 4044) :: st) (wB w) nc ns := rfl
theorem pf_4044 {x : Int32} : hv_step cm vk dv hv_ft mc ms rt call (.putfield 1144) (ls, .int x :: .ref 40 :: st, wB w, nc, ns) = hv_nx ls st (wB (s_sc w 4044 x)) nc ns := by simp [st_putfield, wr_40, hv_ft, tyX11, k_fi32, wp_4044]
theorem gf_4045 {ft : Nat → Nat → FieldType} : hv_step cm vk dv ft mc ms rt call (.getfield 1145) (ls, .ref 40 :: st, wB w, nc, ns) = hv_nx ls (.int (w_sc w 4045) :: st) (wB w) nc ns := rfl
theorem pf_4045 {x : Int32} : hv_step cm vk dv hv_ft mc ms rt call (.putfield 1145) (ls, .int x :: .ref 40 :: st, wB w, nc, ns) = hv_nx ls st (wB (s_sc w 4045 x)) nc ns := by simp [st_putfield, wr_40, hv_ft, tyX11, k_fi32, wp_4045]
theorem gf_4046 {ft : Nat → Nat → FieldType} : hv_step cm vk dv ft mc ms rt call (.getfield 1146) (ls, .ref 40 :: st, wB w, nc, ns) = hv_nx ls (.int (w_sc w 4046) :: st) (wB w) nc ns := rfl
theorem pf_4046 {x : Int32} : hv_step cm vk dv hv_ft mc ms rt call (.putfield 1146) (ls, .int x :: .ref 40 :: st, wB w, nc, ns) = hv_nx ls st (wB (s_sc w 4046 x)) nc ns := by simp [st_putfield, wr_40, hv_ft, tyX11, k_fi32, wp_4046]
theorem gf_4047 {ft : Nat → Nat → FieldType} : hv_step cm vk dv ft mc ms rt call (.getfield 1147) (ls, .ref 40 :: st, wB w, nc, ns) = hv_nx ls (.int (w_sc w 4047) :: st) (wB w) nc ns := rfl
theorem pf_4047 {x : Int32} : hv_step cm vk dv hv_ft mc ms rt call (.putfield 1147) (ls, .int x :: .ref 40 :: st, wB w, nc, ns) = if hv_fok .boolean (.int x) = true then hv_nx ls st (wB (s_sc w 4047 x)) nc ns else none := by simp [st_putfield, wr_40, hv_ft, tyX11, wp_4047]
theorem gf_4048 {ft : Nat → Nat → FieldType} : hv_step cm vk dv ft mc ms rt call (.getfield 1148) (ls, .ref 40 :: st, wB w, nc, ns) = hv_nx ls (.int (w_sc w 4048) :: st) (wB w) nc ns := rfl
theorem pf_4048 {x : Int32} : hv_step cm vk dv hv_ft mc ms rt call (.putfield 1148) (ls, .int x :: .ref 40 :: st, wB w, nc, ns) = if hv_fok .boolean (.int x) = true then hv_nx ls st (wB (s_sc w 4048 x)) nc ns else none := by simp [st_putfield, wr_40, hv_ft, tyX11, wp_4048]
theorem gf_4049 {ft : Nat → Nat → FieldType} : hv_step cm vk dv ft mc ms rt call (.getfield 1149) (ls, .ref 40 :: st, wB w, nc, ns) = hv_nx ls (.ref 64 :: st) (wB w) nc ns := rfl
theorem gf_4050 {ft : Nat → Nat → FieldType} : hv_step cm vk dv ft mc ms rt call (.getfield 1150) (ls, .ref 40 :: st, wB w, nc, ns) = hv_nx ls (.ref 65 :: st) (wB w) nc ns := rfl
theorem gf_4051 {ft : Nat → Nat → FieldType} : hv_step cm vk dv ft mc ms rt call (.getfield 1151) (ls, .ref 40 :: st, wB w, nc, ns) = hv_nx ls (.int (w_sc w 4051) :: st) (wB w) nc ns := rfl
theorem pf_4051 {x : Int32} : hv_step cm vk dv hv_ft mc ms rt call (.putfield 1151) (ls, .int x :: .ref 40 :: st, wB w, nc, ns) = hv_nx ls st (wB (s_sc w 4051 x)) nc ns := by simp [st_putfield, wr_40, hv_ft, tyX11, k_fi32, wp_4051]
theorem gf_4052 {ft : Nat → Nat → FieldType} : hv_step cm vk dv ft mc ms rt call (.getfield 1152) (ls, .ref 40 :: st, wB w, nc, ns) = hv_nx ls (.int (w_sc w 4052) :: st) (wB w) nc ns := rfl
theorem pf_4052 {x : Int32} : hv_step cm vk dv hv_ft mc ms rt call (.putfield 1152) (ls, .int x :: .ref 40 :: st, wB w, nc, ns) = hv_nx ls st (wB (s_sc w 4052 x)) nc ns := by simp [st_putfield, wr_40, hv_ft, tyX11, k_fi32, wp_4052]
end SF
