/-! An abstract machine over numbered cells: what one instruction does, and structured code over it. A cell is numbered by the order in which it was made; '.ref k' is cell k, '.retAddr k' is text constant k. -/
abbrev hv_H : Type := List va_E
abbrev hv_L : Type := List (Option Value)
abbrev hv_S : Type := hv_L × List Value × hv_H × Nat × Nat
abbrev hv_R : Type := Option Value × hv_H
abbrev hv_O : Type := (Nat × hv_S) ⊕ hv_R
abbrev hv_M : Type := hv_S → Option hv_O
abbrev hv_F : Type := Nat → List Value → hv_H → Option hv_R
def hv_nx (ls : hv_L) (st : List Value) (h : hv_H) (nc ns : Nat) : Option hv_O := some (.inl (0, ls, st, h, nc, ns))
def hv_k1 (ls : hv_L) : Nat → hv_L
  | 0 => ls
  | i + 1 => match ls[i]? with
    | some (some (.long _)) => ls.set i none
    | some (some (.double _)) => ls.set i none
    | _ => ls
def hv_st1 (ls : hv_L) (i : Nat) (v : Value) : hv_L := (hv_k1 ls i).set i (some v)
def hv_st2 (ls : hv_L) (i : Nat) (v : Value) : hv_L := ((hv_k1 ls i).set i (some v)).set (i + 1) none
/-- the words that a row of values takes -/
def hv_w : List Value → Nat
  | [] => 0
  | v :: vs => v.category + hv_w vs
/-- the receiver is a cell of the kind -/
def hv_rc (k : Option Nat) (as : List Value) (h : hv_H) : Bool := match k with
  | none => true
  | some ci => match as with
    | .ref a :: _ => match h[a]? with
      | some (.inr (cj, _)) => cj == ci
      | _ => false
    | _ => false
def hv_fok (ty : FieldType) (v : Value) : Bool := decide (narrow ty v = v) && fits ty v
def hv_cmp (op : ClassFile.Cond) (x y : Int32) : Bool := match op with
  | .eq => x == y
  | .ne => x != y
  | .lt => decide (x < y)
  | .ge => decide (y ≤ x)
  | .gt => decide (y < x)
  | .le => decide (x ≤ y)
/-- one instruction. 'cm': what a callee may make; 'vk': the kind that a callee's receiver has; 'dv': a kind's fields at birth; 'ft': a field's type; 'mc', 'ms': what this method may make; 'rt': its return type -/
def hv_step (cm : Nat → Nat × Nat) (vk : Nat → Option Nat) (dv : Nat → List Value) (ft : Nat → Nat → FieldType) (mc ms : Nat) (rt : Option FieldType) (call : hv_F) (i : Instr) : hv_M := fun (ls, st, h, nc, ns) => match i with
  | .iconst n => hv_nx ls (.int (Int32.ofInt n) :: st) h nc ns
  | .bipush n => hv_nx ls (.long (Int64.ofInt n) :: st) h nc ns
  | .ldc k => hv_nx ls (.retAddr k :: st) h nc ns
  | .aconst_null => hv_nx ls (.null :: st) h nc ns
  | .iload i => match ls[i]? with
    | some (some (.int x)) => hv_nx ls (.int x :: st) h nc ns
    | _ => none
  | .lload i => match ls[i]? with
    | some (some (.long x)) => hv_nx ls (.long x :: st) h nc ns
    | _ => none
  | .aload i => match ls[i]? with
    | some (some (.ref x)) => hv_nx ls (.ref x :: st) h nc ns
    | some (some (.retAddr x)) => hv_nx ls (.retAddr x :: st) h nc ns
    | some (some .null) => hv_nx ls (.null :: st) h nc ns
    | _ => none
  | .istore i => match st with
    | .int x :: st => if i < ls.length then hv_nx (hv_st1 ls i (.int x)) st h nc ns else none
    | _ => none
  | .astore i => match st with
    | .ref x :: st => if i < ls.length then hv_nx (hv_st1 ls i (.ref x)) st h nc ns else none
    | .null :: st => if i < ls.length then hv_nx (hv_st1 ls i .null) st h nc ns else none
    | _ => none
  | .lstore i => match st with
    | .long x :: st => if i + 1 < ls.length then hv_nx (hv_st2 ls i (.long x)) st h nc ns else none
    | _ => none
  | .iinc i n => match ls[i]? with
    | some (some (.int x)) => hv_nx (hv_st1 ls i (.int (x + Int32.ofInt n))) st h nc ns
    | _ => none
  | .iadd => match st with
    | .int y :: .int x :: st => hv_nx ls (.int (x + y) :: st) h nc ns
    | _ => none
  | .isub => match st with
    | .int y :: .int x :: st => hv_nx ls (.int (x - y) :: st) h nc ns
    | _ => none
  | .imul => match st with
    | .int y :: .int x :: st => hv_nx ls (.int (x * y) :: st) h nc ns
    | _ => none
  | .iand => match st with
    | .int y :: .int x :: st => hv_nx ls (.int (x &&& y) :: st) h nc ns
    | _ => none
  | .ior => match st with
    | .int y :: .int x :: st => hv_nx ls (.int (x ||| y) :: st) h nc ns
    | _ => none
  | .ishl => match st with
    | .int y :: .int x :: st => hv_nx ls (.int (x <<< (y &&& 31)) :: st) h nc ns
    | _ => none
  | .ishr => match st with
    | .int y :: .int x :: st => hv_nx ls (.int (x >>> (y &&& 31)) :: st) h nc ns
    | _ => none
  | .iushr => match st with
    | .int y :: .int x :: st => hv_nx ls (.int ((x.toUInt32 >>> (y.toUInt32 &&& Int32.toUInt32 31)).toInt32) :: st) h nc ns
    | _ => none
  | .idiv => match st with
    | .int y :: .int x :: st => if y = 0 then none else hv_nx ls (.int (x / y) :: st) h nc ns
    | _ => none
  | .irem => match st with
    | .int y :: .int x :: st => if y = 0 then none else hv_nx ls (.int (x - x / y * y) :: st) h nc ns
    | _ => none
  | .ineg => match st with
    | .int x :: st => hv_nx ls (.int (-x) :: st) h nc ns
    | _ => none
  | .ladd => match st with
    | .long y :: .long x :: st => hv_nx ls (.long (x + y) :: st) h nc ns
    | _ => none
  | .lsub => match st with
    | .long y :: .long x :: st => hv_nx ls (.long (x - y) :: st) h nc ns
    | _ => none
  | .lmul => match st with
    | .long y :: .long x :: st => hv_nx ls (.long (x * y) :: st) h nc ns
    | _ => none
  | .ldiv => match st with
    | .long y :: .long x :: st => if y = 0 then none else hv_nx ls (.long (x / y) :: st) h nc ns
    | _ => none
  | .lrem => match st with
    | .long y :: .long x :: st => if y = 0 then none else hv_nx ls (.long (x - x / y * y) :: st) h nc ns
    | _ => none
  | .lcmp => match st with
    | .long y :: .long x :: st => hv_nx ls (.int (lg_cmp x y) :: st) h nc ns
    | _ => none
  | .i2l => match st with
    | .int x :: st => hv_nx ls (.long x.toInt64 :: st) h nc ns
    | _ => none
  | .l2i => match st with
    | .long x :: st => hv_nx ls (.int x.toInt32 :: st) h nc ns
    | _ => none
  | .i2b => match st with
    | .int x :: st => hv_nx ls (.int x.toInt8.toInt32 :: st) h nc ns
    | _ => none
  | .dup => match st with
    | .int x :: st => hv_nx ls (.int x :: .int x :: st) h nc ns
    | .ref x :: st => hv_nx ls (.ref x :: .ref x :: st) h nc ns
    | _ => none
  | .dup2 => match st with
    | .int x :: .ref y :: st => hv_nx ls (.int x :: .ref y :: .int x :: .ref y :: st) h nc ns
    | _ => none
  | .pop => match st with
    | .int _ :: st => hv_nx ls st h nc ns
    | .ref _ :: st => hv_nx ls st h nc ns
    | _ => none
  | .goto k => some (.inl (k.toNat + 1, ls, st, h, nc, ns))
  | .ifCond op k => match st with
    | .int x :: st => if hv_cmp op x 0 then some (.inl (k.toNat + 1, ls, st, h, nc, ns)) else hv_nx ls st h nc ns
    | _ => none
  | .if_icmp op k => match st with
    | .int y :: .int x :: st => if hv_cmp op x y then some (.inl (k.toNat + 1, ls, st, h, nc, ns)) else hv_nx ls st h nc ns
    | _ => none
  | .ifnull k => match st with
    | .null :: st => some (.inl (k.toNat + 1, ls, st, h, nc, ns))
    | .ref _ :: st => hv_nx ls st h nc ns
    | _ => none
  | .ifnonnull k => match st with
    | .null :: st => hv_nx ls st h nc ns
    | .ref _ :: st => some (.inl (k.toNat + 1, ls, st, h, nc, ns))
    | _ => none
  | .tableswitch d lo hi ks => match st with
    | .int x :: st => if x.toInt < lo ∨ hi < x.toInt then some (.inl (d.toNat + 1, ls, st, h, nc, ns)) else match ks[(x.toInt - lo).toNat]? with
      | some k => some (.inl (k.toNat + 1, ls, st, h, nc, ns))
      | none => none
    | _ => none
  | .getfield n => match st with
    | .ref a :: st => match h[a]? with
      | some (.inr (ci, fs)) => if ci = n / 100 then match fs[n % 100]? with
        | some v => hv_nx ls (v :: st) h nc ns
        | none => none
        else none
      | _ => none
    | _ => none
  | .putfield n => match st with
    | v :: .ref a :: st => match h[a]? with
      | some (.inr (ci, fs)) => if ci = n / 100 ∧ n % 100 < fs.length ∧ hv_fok (ft (n / 100) (n % 100)) v = true then hv_nx ls st (h.set a (.inr (ci, fs.set (n % 100) v))) nc ns else none
      | _ => none
    | _ => none
  | .iaload => match st with
    | .int i :: .ref a :: st => match h[a]? with
      | some (.inl (0, n, .inl f)) => if i < 0 ∨ n ≤ i.toNatClampNeg then none else hv_nx ls (.int (f i.toNatClampNeg) :: st) h nc ns
      | _ => none
    | _ => none
  | .baload => match st with
    | .int i :: .ref a :: st => match h[a]? with
      | some (.inl (1, n, .inl f)) => if i < 0 ∨ n ≤ i.toNatClampNeg then none else hv_nx ls (.int (f i.toNatClampNeg) :: st) h nc ns
      | some (.inl (2, n, .inl f)) => if i < 0 ∨ n ≤ i.toNatClampNeg then none else hv_nx ls (.int (f i.toNatClampNeg) :: st) h nc ns
      | _ => none
    | _ => none
  | .laload => match st with
    | .int i :: .ref a :: st => match h[a]? with
      | some (.inl (3, n, .inr (.inl f))) => if i < 0 ∨ n ≤ i.toNatClampNeg then none else hv_nx ls (.long (f i.toNatClampNeg) :: st) h nc ns
      | _ => none
    | _ => none
  | .aaload => match st with
    | .int i :: .ref a :: st => match h[a]? with
      | some (.inl (t, n, .inr (.inr (.inr (.inr f))))) => if (t = 4 ∨ t = 5) ∧ ¬ (i < 0 ∨ n ≤ i.toNatClampNeg) then hv_nx ls (va_rf (f i.toNatClampNeg) :: st) h nc ns else none
      | _ => none
    | _ => none
  | .iastore => match st with
    | .int x :: .int i :: .ref a :: st => match h[a]? with
      | some (.inl (0, n, .inl f)) => if i < 0 ∨ n ≤ i.toNatClampNeg then none else hv_nx ls st (h.set a (.inl (0, n, .inl (upd f i.toNatClampNeg x)))) nc ns
      | _ => none
    | _ => none
  | .bastore => match st with
    | .int x :: .int i :: .ref a :: st => match h[a]? with
      | some (.inl (1, n, .inl f)) => if i < 0 ∨ n ≤ i.toNatClampNeg then none else hv_nx ls st (h.set a (.inl (1, n, .inl (upd f i.toNatClampNeg x.toInt8.toInt32)))) nc ns
      | some (.inl (2, n, .inl f)) => if i < 0 ∨ n ≤ i.toNatClampNeg then none else hv_nx ls st (h.set a (.inl (2, n, .inl (upd f i.toNatClampNeg (x &&& 1))))) nc ns
      | _ => none
    | _ => none
  | .lastore => match st with
    | .long x :: .int i :: .ref a :: st => match h[a]? with
      | some (.inl (3, n, .inr (.inl f))) => if i < 0 ∨ n ≤ i.toNatClampNeg then none else hv_nx ls st (h.set a (.inl (3, n, .inr (.inl (vp_updL f i.toNatClampNeg x))))) nc ns
      | _ => none
    | _ => none
  | .aastore => match st with
    | .ref x :: .int i :: .ref a :: st => match h[a]? with
      | some (.inl (t, n, .inr (.inr (.inr (.inr f))))) => if (t = 4 ∧ hv_rc (some 9) [.ref x] h = true ∨ t = 5 ∧ hv_rc (some 1) [.ref x] h = true) ∧ ¬ (i < 0 ∨ n ≤ i.toNatClampNeg) then hv_nx ls st (h.set a (.inl (t, n, .inr (.inr (.inr (.inr (va_up f i.toNatClampNeg (some x)))))))) nc ns else none
      | _ => none
    | .null :: .int i :: .ref a :: st => match h[a]? with
      | some (.inl (t, n, .inr (.inr (.inr (.inr f))))) => if (t = 4 ∨ t = 5) ∧ ¬ (i < 0 ∨ n ≤ i.toNatClampNeg) then hv_nx ls st (h.set a (.inl (t, n, .inr (.inr (.inr (.inr (va_up f i.toNatClampNeg none))))))) nc ns else none
      | _ => none
    | _ => none
  | .arraylength => match st with
    | .ref a :: st => match h[a]? with
      | some (.inl (t, n, _)) => if t ≤ 5 then hv_nx ls (.int (Int32.ofNat n) :: st) h nc ns else none
      | _ => none
    | _ => none
  | .new ci => if nc + 1 ≤ mc ∧ ns + (dv ci).length ≤ ms then hv_nx ls (.ref h.length :: st) (h ++ [.inr (ci, dv ci)]) (nc + 1) (ns + (dv ci).length) else none
  | .newarray ty => match st with
    | .int n :: st => if ¬ n < 0 ∧ n.toNatClampNeg ≤ 20000 ∧ nc + 1 ≤ mc ∧ ns + n.toNatClampNeg ≤ ms then match ty with
      | .int => hv_nx ls (.ref h.length :: st) (h ++ [.inl (0, n.toNatClampNeg, .inl (fun _ => 0))]) (nc + 1) (ns + n.toNatClampNeg)
      | .byte => hv_nx ls (.ref h.length :: st) (h ++ [.inl (1, n.toNatClampNeg, .inl (fun _ => 0))]) (nc + 1) (ns + n.toNatClampNeg)
      | .boolean => hv_nx ls (.ref h.length :: st) (h ++ [.inl (2, n.toNatClampNeg, .inl (fun _ => 0))]) (nc + 1) (ns + n.toNatClampNeg)
      | .long => hv_nx ls (.ref h.length :: st) (h ++ [.inl (3, n.toNatClampNeg, .inr (.inl (fun _ => 0)))]) (nc + 1) (ns + n.toNatClampNeg)
      | _ => none
      else none
    | _ => none
  | .anewarray t => match st with
    | .int n :: st => if (t = 4 ∨ t = 5) ∧ ¬ n < 0 ∧ n.toNatClampNeg ≤ 20000 ∧ nc + 1 ≤ mc ∧ ns + n.toNatClampNeg ≤ ms then hv_nx ls (.ref h.length :: st) (h ++ [.inl (t, n.toNatClampNeg, .inr (.inr (.inr (.inr (fun _ => none)))))]) (nc + 1) (ns + n.toNatClampNeg) else none
    | _ => none
  | .invokespecial _ => match st with
    | .ref _ :: st => if hv_w st ≤ 8 then hv_nx ls st h nc ns else none
    | _ => none
  | .invokestatic _ => match st with
    | .int n :: .int dp :: .ref a1 :: .int sp :: .ref a0 :: st => match h[a0]?, h[a1]? with
      | some (.inl (0, n0, .inl f)), some (.inl (0, n1, .inl g)) => if hv_w st ≤ 8 ∧ ¬ sp < 0 ∧ ¬ dp < 0 ∧ ¬ n < 0 ∧ sp.toNatClampNeg + n.toNatClampNeg ≤ n0 ∧ dp.toNatClampNeg + n.toNatClampNeg ≤ n1 then hv_nx ls st (h.set a1 (.inl (0, n1, .inl (va_cpy f g sp.toNatClampNeg dp.toNatClampNeg n.toNatClampNeg)))) nc ns else none
      | _, _ => none
    | _ => none
  | .swap => match st with
    | .ref a :: st => match h[a]? with
      | some (.inl (0, n, .inl f)) => if hv_w st ≤ 8 ∧ nc + 1 ≤ mc ∧ ns + n ≤ ms then hv_nx ls (.ref h.length :: st) (h ++ [.inl (0, n, .inl f)]) (nc + 1) (ns + n) else none
      | _ => none
    | _ => none
  | .checkcast _ => match st with
    | .ref a :: st => match h[a]? with
      | some (.inl (0, _, .inl _)) => hv_nx ls (.ref a :: st) h nc ns
      | _ => none
    | _ => none
  | .invokeinterface j n => if n ≤ st.length ∧ hv_w (st.drop n) ≤ 8 ∧ nc + (cm j).1 ≤ mc ∧ ns + (cm j).2 ≤ ms ∧ hv_rc (vk j) (st.take n).reverse h = true then match call j (st.take n).reverse h with
      | some (rv, h') => hv_nx ls (rv.toList ++ st.drop n) h' (nc + (cm j).1) (ns + (cm j).2)
      | none => none
      else none
  | .ireturn => match st with
    | [.int v] => match rt with
      | some ty => if narrow ty (.int v) = .int v ∧ nc ≤ mc ∧ ns ≤ ms then some (.inr (some (.int v), h)) else none
      | none => none
    | _ => none
  | .lreturn => match st with
    | [.long v] => if rt = some .long ∧ nc ≤ mc ∧ ns ≤ ms then some (.inr (some (.long v), h)) else none
    | _ => none
  | .areturn => match st with
    | [.ref v] => if nc ≤ mc ∧ ns ≤ ms then some (.inr (some (.ref v), h)) else none
    | [.null] => if nc ≤ mc ∧ ns ≤ ms then some (.inr (some .null, h)) else none
    | _ => none
  | .return_ => match st with
    | [] => if nc ≤ mc ∧ ns ≤ ms then some (.inr (none, h)) else none
    | _ => none
  | _ => none
def hv_sk (b : hv_M) : Option hv_O → Option hv_O
  | some (.inl (0, τ)) => b τ
  | r => r
def hv_seq (a b : hv_M) : hv_M := fun σ => hv_sk b (a σ)
def hv_bk : Option hv_O → Option hv_O
  | some (.inl (k + 1, τ)) => some (.inl (k, τ))
  | r => r
def hv_blk (a : hv_M) : hv_M := fun σ => hv_bk (a σ)
/-- a loop, at most n times round: label 0 is its head -/
def hv_lk (again : hv_M) : Option hv_O → Option hv_O
  | some (.inl (1, τ)) => again τ
  | some (.inl (k + 2, τ)) => some (.inl (k + 1, τ))
  | r => r
def hv_lpn (a : hv_M) : Nat → hv_S → Option hv_O
  | 0, _ => none
  | n + 1, σ => hv_lk (hv_lpn a n) (a σ)
theorem hv_lk_mono {f g : hv_M} (hfg : ∀ σ r, f σ = some r → g σ = some r) {x : Option hv_O} {r : hv_O} (h : hv_lk f x = some r) : hv_lk g x = some r := by
  match x, h with
  | some (.inl (0, τ)), h => exact h
  | some (.inl (1, τ)), h => exact hfg τ r h
  | some (.inl (k + 2, τ)), h => exact h
  | some (.inr q), h => exact h
theorem hv_lpn_succ (a : hv_M) : ∀ (n : Nat) (σ : hv_S) (r : hv_O), hv_lpn a n σ = some r → hv_lpn a (n + 1) σ = some r
  | 0, _, _, h => by simp [hv_lpn] at h
  | n + 1, σ, r, h => by
    rw [hv_lpn] at h ⊢
    exact hv_lk_mono (fun τ q => hv_lpn_succ a n τ q) h
theorem hv_lpn_le (a : hv_M) {n m : Nat} (hnm : n ≤ m) {σ : hv_S} {r : hv_O} (h : hv_lpn a n σ = some r) : hv_lpn a m σ = some r := by
  induction hnm with
  | refl => exact h
  | step _ ih => exact hv_lpn_succ a _ σ r ih
theorem hv_lpn_det (a : hv_M) {n m : Nat} {σ : hv_S} {r q : hv_O} (h : hv_lpn a n σ = some r) (g : hv_lpn a m σ = some q) : r = q := by
  rcases Nat.le_total n m with hl | hl
  · exact Option.some.inj ((hv_lpn_le a hl h).symm.trans g)
  · exact Option.some.inj (h.symm.trans (hv_lpn_le a hl g))
noncomputable def hv_lp (a : hv_M) : hv_M := fun σ => match Classical.propDecidable (∃ (n : Nat) (r : hv_O), hv_lpn a n σ = some r) with
  | .isTrue h => some h.choose_spec.choose
  | .isFalse _ => none
theorem hv_lp_of {a : hv_M} {n : Nat} {σ : hv_S} {r : hv_O} (h : hv_lpn a n σ = some r) : hv_lp a σ = some r := by
  unfold hv_lp
  split
  · rename_i g _
    exact congrArg some (hv_lpn_det a g.choose_spec.choose_spec h)
  · rename_i g _
    exact absurd ⟨n, r, h⟩ g
theorem hv_lp_ex {a : hv_M} {σ : hv_S} {r : hv_O} (h : hv_lp a σ = some r) : ∃ n, hv_lpn a n σ = some r := by
  unfold hv_lp at h
  split at h
  · rename_i g _
    exact ⟨g.choose, by rw [g.choose_spec.choose_spec]; exact h⟩
  · cases h
/-- a loop is its body, then again -/
theorem hv_lp_eq (a : hv_M) (σ : hv_S) : hv_lp a σ = hv_lk (hv_lp a) (a σ) := by
  have key : ∀ r, hv_lp a σ = some r ↔ hv_lk (hv_lp a) (a σ) = some r := by
    intro r
    constructor
    · intro h
      obtain ⟨n, hn⟩ := hv_lp_ex h
      cases n with
      | zero => simp [hv_lpn] at hn
      | succ n => exact hv_lk_mono (fun τ q hq => hv_lp_of hq) hn
    · intro h
      match e : a σ, h with
      | some (.inl (0, τ)), h => exact hv_lp_of (n := 1) (by rw [hv_lpn, e]; exact h)
      | some (.inl (1, τ)), h =>
        obtain ⟨n, hn⟩ := hv_lp_ex (σ := τ) h
        exact hv_lp_of (n := n + 1) (by rw [hv_lpn, e]; exact hn)
      | some (.inl (k + 2, τ)), h => exact hv_lp_of (n := 1) (by rw [hv_lpn, e]; exact h)
      | some (.inr q), h => exact hv_lp_of (n := 1) (by rw [hv_lpn, e]; exact h)
  cases h1 : hv_lp a σ with
  | none =>
    cases h2 : hv_lk (hv_lp a) (a σ) with
    | none => rfl
    | some r => rw [(key r).mpr h2] at h1; cases h1
  | some r => exact ((key r).mp h1).symm
/-- a row of instructions -/
def hv_run (f : Instr → hv_M) : List Instr → hv_M
  | [] => fun σ => some (.inl (0, σ))
  | i :: is => hv_seq (f i) (hv_run f is)
