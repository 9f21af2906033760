/-! What is known of the machine wherever it stands: classes, nest mates, text constants. -/
def hv_nest (w : Jvm.Cond) : Bool := match w with
  | .fieldLinkNest .. => true
  | .methodLinkNest .. => true
  | .castable .. => true
  | _ => false
def hv_SL : List Nat := hv_STR.map (fun t => t.toList.length)
def hv_SB : List (List Int32) := hv_STR.map (fun t => t.toList.map (fun c => Int32.ofNat c.toNat))
def hv_Kx (D : va_G) (b : Nat) (sa sv : Nat → Nat) (cA : Nat → ClassId) (U : State) : Prop :=
  va_K D vwCl (hv_tys cA) U ∧ (∀ w ∈ lw_tbl, hv_nest w = true → va_Nw w U) ∧ va_AO "HardestVows$Whole" U ∧ va_AO "HardestVows$Code" U ∧ (∀ x ∈ hv_ST, vk_R (hv_on x.1) x.2.1 (hv_STR.getD x.2.2.1 "") (sa x.2.2.1) U) ∧ vk_S 11 hv_SL hv_SB sa sv (fun q => b ≤ q) U U.heap ∧ va_Z "java/lang/String" "COMPACT_STRINGS" "Z" (.int 1) (fun q => b ≤ q) U U.heap ∧ va_Zq "jdk/internal/util/Preconditions" "SIOOBE_FORMATTER" "Ljava/util/function/BiFunction;" (fun q => b ≤ q) U U.heap
theorem hv_nest_warm {s U : State} (hW : s.WarmedH U.vm) {w : Jvm.Cond} (hw : hv_nest w = true) (h : va_Nw w s) : va_Nw w U := by
  cases w <;> first | exact va_Nw.warmF hW h | exact va_Nw.warmM hW h | exact va_Nw.warmC hW h | cases hw
theorem hv_Kx.warm {D : va_G} {b : Nat} {sa sv : Nat → Nat} {cA : Nat → ClassId} {s : State} (h : hv_Kx D b sa sv cA s) : ∀ U : State, s.WarmedH U.vm → (∀ q : Nat, q < b → U.heap[q]? = s.heap[q]?) → hv_Kx D b sa sv cA U := by
  intro U hW hq
  obtain ⟨h1, h2, h3, h4, h5, h6, h7, h8⟩ := h
  exact ⟨va_K.moved hW.alike h1, fun w hw hn => hv_nest_warm hW hn (h2 w hw hn), h3.moved hW.alike, h4.moved hW.alike, fun x hx => vk_R.warm hW (h5 x hx), (h6.moved hW.alike).kept (fun a _ ha => hq a (Nat.lt_of_not_le ha)), (h7.moved hW.alike).kept (fun a _ ha => hq a (Nat.lt_of_not_le ha)), (h8.moved hW.alike).kept (fun a _ ha => hq a (Nat.lt_of_not_le ha))⟩
theorem hv_Kx.blind {D : va_G} {b : Nat} {sa sv : Nat → Nat} {cA : Nat → ClassId} : ∀ (U : State) (g : JFrame) (mk : MethodId) (a : Array Value), hv_Kx D b sa sv cA U → hv_Kx D b sa sv cA (U.calling g mk a) := by
  intro U g mk a h
  obtain ⟨h1, h2, h3, h4, h5, h6, h7, h8⟩ := h
  exact ⟨va_K.moved (u := U) (U := U.calling g mk a) (Vm.Alike.refl U.vm) h1, fun w hw hn => by
      have h9 := h2 w hw hn
      cases w <;> first | (cases hn; done) | exact va_Nw.same rfl rfl h9, va_AO.moved (u := U) (U := U.calling g mk a) (Vm.Alike.refl U.vm) h3, va_AO.moved (u := U) (U := U.calling g mk a) (Vm.Alike.refl U.vm) h4, fun x hx => vk_R.same (u := U) (U := U.calling g mk a) rfl (h5 x hx), vk_S.moved (u := U) (U := U.calling g mk a) (Vm.Alike.refl U.vm) h6, va_Z.moved (u := U) (U := U.calling g mk a) (Vm.Alike.refl U.vm) h7, va_Zq.moved (u := U) (U := U.calling g mk a) (Vm.Alike.refl U.vm) h8⟩
