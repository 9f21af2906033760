/-! The law over the script, step by step. -/
def hv_ial (L : Nat) (xs : Nat → Int32) (f : hv_M) : hv_M := fun (ls, st, h, nc, ns) => match st with
  | .int i :: .retAddr k :: st => if k = 1000 ∧ ¬ (i < 0 ∨ L ≤ i.toNatClampNeg) then hv_nx ls (.int (xs i.toNatClampNeg) :: st) h nc ns else none
  | st => f (ls, st, h, nc, ns)
def hv_len (L : Nat) (f : hv_M) : hv_M := fun (ls, st, h, nc, ns) => match st with
  | .retAddr k :: st => if k = 1000 then hv_nx ls (.int (Int32.ofNat L) :: st) h nc ns else none
  | st => f (ls, st, h, nc, ns)
def hv_stepL (L : Nat) (xs : Nat → Int32) (call : hv_F) (i : Instr) : hv_M := match i with
  | .iaload => hv_ial L xs (hv_step hv_cm hv_vk hv_dv hv_ft 600000 7302250 (some .boolean) call .iaload)
  | .arraylength => hv_len L (hv_step hv_cm hv_vk hv_dv hv_ft 600000 7302250 (some .boolean) call .arraylength)
  | i => hv_step hv_cm hv_vk hv_dv hv_ft 600000 7302250 (some .boolean) call i
section HVQ
variable {p : Program} {l : Launch} {e : Env} {s : State} {m : MethodId} {below : List Frame} {meth : Method} {c : Code} {D : va_G} {sa sv : Nat → Nat} {cA : Nat → ClassId} {b0 L : Nat} {xs : Nat → Int32} {pc pc' : Nat} {lb : List Nat} {call : hv_F}
theorem hv_stepLOK (X : hv_X p room_1 s m #[Value.ref b0] meth c code 4 15 false D s.heap.size sa sv cA 600000 7302250) (XC : hv_XC p l e room_1 s m #[Value.ref b0] below meth c (lw_Z below #[Value.ref b0] s) code 4 15 D s.heap.size sa cA call) (hX : va_X b0 L xs s s.heap) (hbl : b0 < s.heap.size) (hsa : sa 1000 = b0) (hr0 : meth.sig.returnType = ret) (hlk : meth.locks = false) : ∀ (lb : List Nat) (pc : Nat) (i : Instr) (pc' : Nat), hv_ckL lb pc i = some pc' → hv_I (hv_SW p l e room_1 s m #[Value.ref b0] below meth c (lw_Z below #[Value.ref b0] s) D vwCl s.heap.size sa cA 4) (fun r => r.1 = some (.int 1)) pc lb (hv_stepL L xs call i) pc' := by
  intro lb pc i pc' h
  unfold hv_ckL at h
  split at h
  · rename_i hok
    have hbA : ¬ (fun q => s.heap.size ≤ q) b0 := Nat.not_le.mpr hbl
    cases i
    case new => exact hv_k_new (call := call) X h
    case dup => exact hv_k_dup (call := call) X h
    case invokeinterface => exact hv_k_invokeinterface X XC h
    case astore => exact hv_k_astore (call := call) X h
    case iconst => exact hv_k_iconst (call := call) X h
    case istore => exact hv_k_istore (call := call) X h
    case iload => exact hv_k_iload (call := call) X h
    case aload => exact hv_k_aload (call := call) X h
    case isub => exact hv_k_isub (call := call) X h
    case if_icmp => exact hv_k_if_icmp (call := call) X h
    case iand => exact hv_k_iand (call := call) X h
    case tableswitch => exact hv_k_tableswitch (call := call) X h
    case iadd => exact hv_k_iadd (call := call) X h
    case goto => exact hv_k_goto (call := call) X h
    case iinc => exact hv_k_iinc (call := call) X h
    case lcmp => exact hv_k_lcmp (call := call) X h
    case ifCond => exact hv_k_ifCond (call := call) X h
    case iaload =>
      have base := hv_k_iaload (l := l) (e := e) (below := below) (Q := lw_Z below #[Value.ref b0] s) (Fn := fun r => r.1 = some (.int 1)) (call := call) X h
      simp only [hv_ck] at h
      split at h
      · rename_i hd
        cases Option.some.inj h
        rintro ⟨ls, st, hh, nc, ns⟩ r hr ok
        change hv_ial L xs _ (ls, st, hh, nc, ns) = some r at hr
        simp only [hv_ial] at hr
        split at hr
        · rename_i i k st
          split at hr
          · rename_i hk
            cases Option.some.inj hr
            intro H locs la hl hP hS
            obtain ⟨hk, hin⟩ := hk
            subst hk
            have k1 := va_sld (pc := pc) (ls := la) (rest := st.map (hv_cv s.heap.size sa)) X.1.1 X.1.2.1 hX hbl hbA hS hin hd (ok H locs la hl hP hS)
            show W p l e room_1 s m #[Value.ref b0] below meth c H locs nc ns _ (F0 m pc la (.int i :: .ref (sa 1000) :: st.map (hv_cv s.heap.size sa)))
            rw [hsa]
            exact k1
          · cases hr
        · exact base _ r hr ok
      · cases h
    case arraylength =>
      have base := hv_k_arraylength (l := l) (e := e) (below := below) (Q := lw_Z below #[Value.ref b0] s) (Fn := fun r => r.1 = some (.int 1)) (call := call) X h
      simp only [hv_ck] at h
      split at h
      · rename_i hd
        cases Option.some.inj h
        rintro ⟨ls, st, hh, nc, ns⟩ r hr ok
        change hv_len L _ (ls, st, hh, nc, ns) = some r at hr
        simp only [hv_len] at hr
        split at hr
        · rename_i k st
          split at hr
          · rename_i hk
            cases Option.some.inj hr
            intro H locs la hl hP hS
            subst hk
            have k1 := va_slen (pc := pc) (ls := la) (rest := st.map (hv_cv s.heap.size sa)) X.1.1 X.1.2.1 hX hbl hbA hS hd (ok H locs la hl hP hS)
            show W p l e room_1 s m #[Value.ref b0] below meth c H locs nc ns _ (F0 m pc la (.ref (sa 1000) :: st.map (hv_cv s.heap.size sa)))
            rw [hsa]
            exact k1
          · cases hr
        · exact base _ r hr ok
      · cases h
    case ireturn =>
      simp only [hv_ck] at h
      split at h
      · rename_i hd
        cases Option.some.inj h
        rintro ⟨ls, st, hh, nc, ns⟩ r hr ok
        change hv_step hv_cm hv_vk hv_dv hv_ft 600000 7302250 (some .boolean) call .ireturn (ls, st, hh, nc, ns) = some r at hr
        simp only [hv_step] at hr
        split at hr
        · rename_i v
          split at hr
          · rename_i hn
            cases Option.some.inj hr
            have hv : v = 1 := by
              have h9 : some (Value.int v) = some (Value.int 1) := ok
              cases h9
              rfl
            subst hv
            intro H locs la hl hP hS
            refine va_forget (fun q hq => hS.2.2 q hq) ?_
            refine W.widen (k := 600000) (n := 7302250) hn.2.1 hn.2.2 ?_
            exact lw_ret X.1.1 X.1.2.1 hr0 hlk hd
          · cases hr
        · cases hr
      · cases h
    all_goals (cases hok)
  · cases h
end HVQ
