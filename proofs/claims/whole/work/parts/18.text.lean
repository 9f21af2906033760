/-! Texts: length() and charAt() of the constants. -/
def hv_pP (D : va_G) (b : Nat) (sa sv : Nat → Nat) (cA : Nat → ClassId) (av : List Value) : Array Value → State → Prop := fun v U => v = av.toArray ∧ hv_Kx D b sa sv cA U ∧ b ≤ U.heap.size
def hv_pQ (rv : Option Value) : Array Value → State → Outcome → State → Prop := fun _ st o t => o = .returned rv ∧ t.heap = st.heap
def hv_r0 (d : Nat) : Room := { frames := d, cells := 0, slots := 0, locals := 100 * d }
def yT_coder : MethodName := ⟨"java/lang/String", "coder", "()B"⟩
def wT_coder : List Jvm.Cond := .code yT_coder prog_17_method_152_code 1 (some .byte) :: hv_G
theorem cT_coder : Jvm.Cond.code yT_coder prog_17_method_152_code 1 (some .byte) ∈ lw_tbl := hv_sub3 (List.mem_of_getElem? (i := 106) rfl)
theorem gT_coder : ∀ w ∈ wT_coder, w ∈ hv_G := fun w hw => (List.mem_cons.mp hw).elim (fun q => by rw [q]; exact List.mem_filter.mpr ⟨cT_coder, rfl⟩) id
def yT_isL : MethodName := ⟨"java/lang/String", "isLatin1", "()Z"⟩
def wT_isL : List Jvm.Cond := .code yT_isL prog_17_method_154_code 1 (some .boolean) :: hv_G
theorem cT_isL : Jvm.Cond.code yT_isL prog_17_method_154_code 1 (some .boolean) ∈ lw_tbl := hv_sub3 (List.mem_of_getElem? (i := 116) rfl)
theorem gT_isL : ∀ w ∈ wT_isL, w ∈ hv_G := fun w hw => (List.mem_cons.mp hw).elim (fun q => by rw [q]; exact List.mem_filter.mpr ⟨cT_isL, rfl⟩) id
def yT_pck : MethodName := ⟨"jdk/internal/util/Preconditions", "checkIndex", "(IILjava/util/function/BiFunction;)I"⟩
def wT_pck : List Jvm.Cond := .code yT_pck prog_22_method_11_code 3 (some .int) :: hv_G
theorem cT_pck : Jvm.Cond.code yT_pck prog_22_method_11_code 3 (some .int) ∈ lw_tbl := hv_sub3 (List.mem_of_getElem? (i := 127) rfl)
theorem gT_pck : ∀ w ∈ wT_pck, w ∈ hv_G := fun w hw => (List.mem_cons.mp hw).elim (fun q => by rw [q]; exact List.mem_filter.mpr ⟨cT_pck, rfl⟩) id
def yT_sck : MethodName := ⟨"java/lang/String", "checkIndex", "(II)V"⟩
def wT_sck : List Jvm.Cond := .code yT_sck prog_17_method_155_code 2 none :: hv_G
theorem cT_sck : Jvm.Cond.code yT_sck prog_17_method_155_code 2 none ∈ lw_tbl := hv_sub3 (List.mem_of_getElem? (i := 122) rfl)
theorem gT_sck : ∀ w ∈ wT_sck, w ∈ hv_G := fun w hw => (List.mem_cons.mp hw).elim (fun q => by rw [q]; exact List.mem_filter.mpr ⟨cT_sck, rfl⟩) id
def yT_lch : MethodName := ⟨"java/lang/StringLatin1", "charAt", "([BI)C"⟩
def wT_lch : List Jvm.Cond := .code yT_lch prog_18_method_2_code 2 (some .char) :: hv_G
theorem cT_lch : Jvm.Cond.code yT_lch prog_18_method_2_code 2 (some .char) ∈ lw_tbl := hv_sub3 (List.mem_of_getElem? (i := 119) rfl)
theorem gT_lch : ∀ w ∈ wT_lch, w ∈ hv_G := fun w hw => (List.mem_cons.mp hw).elim (fun q => by rw [q]; exact List.mem_filter.mpr ⟨cT_lch, rfl⟩) id
abbrev qCS : Nat := 718
abbrev qCo : Nat := 1952
abbrev qVa : Nat := 1951
abbrev qFo : Nat := 734
abbrev qm335 : Nat := 714
abbrev qm492 : Nat := 724
abbrev qm495 : Nat := 728
abbrev qm9 : Nat := 731
abbrev qm1059 : Nat := 736
abbrev qiC : Nat := 715
abbrev qsC : Nat := 716
abbrev qiL : Nat := 725
abbrev qsL : Nat := 726
abbrev qtP : Nat := 737
abbrev qtS : Nat := 732
abbrev qtL : Nat := 729
abbrev qIS : Nat := 145
abbrev qIL : Nat := 146
abbrev qIP : Nat := 147
section HVX
theorem mT_coder (l : Launch) (D : va_G) (b : Nat) (sa sv : Nat → Nat) (cA : Nat → ClassId) (d : Nat) {k : Nat} (hk : k < 11) : Met l yT_coder wT_coder (hv_r0 d) (hv_pP D b sa sv cA ([.ref (sa k)])) (hv_pQ (some (.int 0))) 0 0 (fun q => b ≤ q) := by
  refine Met.ofW (cc := prog_17_method_152_code) (maxL := 1) (ret := (some .byte)) (by decide) rfl ?_
  intro p e s m args below meth c s₁ B hml hv
  obtain ⟨rfl, hKx, hb0⟩ := hv
  have hx := B.exec
  have hb := B.bytes
  have hr := B.returns
  have hts0 := atoms_spec (ws := wT_coder) B.pre
  have hts : ∀ w ∈ hv_G, w.before _ s = true := fun w hw => hts0 w (List.mem_cons_of_mem _ hw)
  have hown : s.vm.findClass "java/lang/String" = some m.cls := findClass_of_methodNamed B.named
  have hlocks := B.notSynchronized
  have hS : va_S (fun q => b ≤ q) s.heap s.heap [] := va_S.rf
  have hl := lv_entry ([.ref (sa k)]) (n := 1) (Nat.le_of_ble_eq_true rfl)
  rw [lg_entry_eq]
  generalize (lg_sl ([.ref (sa k)]) ++ List.replicate (1 - (lg_sl ([.ref (sa k)])).length) Slot.unset).toArray = ls at hl ⊢
  have hl : lv_has ls 1 [(0, .ref (sa k))] := hl
  refine va_gets hx hb hKx.2.2.2.2.2.2.1 hS hown (hts _ (hv_inG (k := qCS) (by decide +kernel) rfl)) (fun _ z => z) (show decode prog_17_method_152_code 0 = .ok (.getstatic 38, 3) by decide +kernel) ?_
  refine lv_if_eq (tgt := 13) hx hb (show decode prog_17_method_152_code 3 = .ok (.ifCond .eq 10, 3) by decide +kernel) (by decide) (fun q => absurd q (by decide)) (fun _ => ?_)
  refine lv_aload_n hx hb (show decode prog_17_method_152_code 6 = .ok (.aload_n 0, 1) by decide +kernel) rfl (lv_at hl 0 rfl) ?_
  refine vk_getf hx hb (hKx.2.2.2.2.2.1.1 k hk).2.1 hS hown (hts _ (hv_inG (k := qCo) (by decide +kernel) rfl)) (fun _ z => z) (show decode prog_17_method_152_code 7 = .ok (.getfield 15, 3) by decide +kernel) ?_
  refine lv_goto (tgt := 14) hx hb (show decode prog_17_method_152_code 10 = .ok (.goto 4, 3) by decide +kernel) (by decide) ?_
  exact W.zret (ty := .byte) hx hb hr (by decide) (fun t ht hW => ⟨rfl, ht⟩) hS.2.2 (show decode prog_17_method_152_code 14 = .ok (.ireturn, 1) by decide +kernel)
theorem mT_isL (l : Launch) (D : va_G) (b : Nat) (sa sv : Nat → Nat) (cA : Nat → ClassId) (d : Nat) {k : Nat} (hk : k < 11) : Met l yT_isL wT_isL (hv_r0 d) (hv_pP D b sa sv cA ([.ref (sa k)])) (hv_pQ (some (.int 1))) 0 0 (fun q => b ≤ q) := by
  refine Met.ofW (cc := prog_17_method_154_code) (maxL := 1) (ret := (some .boolean)) (by decide) rfl ?_
  intro p e s m args below meth c s₁ B hml hv
  obtain ⟨rfl, hKx, hb0⟩ := hv
  have hx := B.exec
  have hb := B.bytes
  have hr := B.returns
  have hts0 := atoms_spec (ws := wT_isL) B.pre
  have hts : ∀ w ∈ hv_G, w.before _ s = true := fun w hw => hts0 w (List.mem_cons_of_mem _ hw)
  have hown : s.vm.findClass "java/lang/String" = some m.cls := findClass_of_methodNamed B.named
  have hlocks := B.notSynchronized
  have hS : va_S (fun q => b ≤ q) s.heap s.heap [] := va_S.rf
  have hl := lv_entry ([.ref (sa k)]) (n := 1) (Nat.le_of_ble_eq_true rfl)
  rw [lg_entry_eq]
  generalize (lg_sl ([.ref (sa k)]) ++ List.replicate (1 - (lg_sl ([.ref (sa k)])).length) Slot.unset).toArray = ls at hl ⊢
  have hl : lv_has ls 1 [(0, .ref (sa k))] := hl
  refine va_gets hx hb hKx.2.2.2.2.2.2.1 hS hown (hts _ (hv_inG (k := qCS) (by decide +kernel) rfl)) (fun _ z => z) (show decode prog_17_method_154_code 0 = .ok (.getstatic 38, 3) by decide +kernel) ?_
  refine lv_if_eq (tgt := 17) hx hb (show decode prog_17_method_154_code 3 = .ok (.ifCond .eq 14, 3) by decide +kernel) (by decide) (fun q => absurd q (by decide)) (fun _ => ?_)
  refine lv_aload_n hx hb (show decode prog_17_method_154_code 6 = .ok (.aload_n 0, 1) by decide +kernel) rfl (lv_at hl 0 rfl) ?_
  refine vk_getf hx hb (hKx.2.2.2.2.2.1.1 k hk).2.1 hS hown (hts _ (hv_inG (k := qCo) (by decide +kernel) rfl)) (fun _ z => z) (show decode prog_17_method_154_code 7 = .ok (.getfield 15, 3) by decide +kernel) ?_
  refine lv_if_ne (tgt := 17) hx hb (show decode prog_17_method_154_code 10 = .ok (.ifCond .ne 7, 3) by decide +kernel) (by decide) (fun q => absurd rfl q) (fun _ => ?_)
  refine lv_iconst (v := 1) hx hb (show decode prog_17_method_154_code 13 = .ok (.iconst 1, 1) by decide +kernel) (by decide) ?_
  refine lv_goto (tgt := 18) hx hb (show decode prog_17_method_154_code 14 = .ok (.goto 4, 3) by decide +kernel) (by decide) ?_
  exact W.zret (ty := .boolean) hx hb hr (by decide) (fun t ht hW => ⟨rfl, ht⟩) hS.2.2 (show decode prog_17_method_154_code 18 = .ok (.ireturn, 1) by decide +kernel)
theorem mT_pck (l : Launch) (D : va_G) (b : Nat) (sa sv : Nat → Nat) (cA : Nat → ClassId) (d : Nat) {i n : Int32} {x : Value} (h0 : ¬ i < 0) (h1 : i < n) (hx0 : x.category = 1) : Met l yT_pck wT_pck (hv_r0 d) (hv_pP D b sa sv cA ([.int i, .int n, x])) (hv_pQ (some (.int i))) 0 0 (fun q => b ≤ q) := by
  refine Met.ofW (cc := prog_22_method_11_code) (maxL := 3) (ret := (some .int)) (by decide) rfl ?_
  intro p e s m args below meth c s₁ B hml hv
  obtain ⟨rfl, hKx, hb0⟩ := hv
  have hx := B.exec
  have hb := B.bytes
  have hr := B.returns
  have hts0 := atoms_spec (ws := wT_pck) B.pre
  have hts : ∀ w ∈ hv_G, w.before _ s = true := fun w hw => hts0 w (List.mem_cons_of_mem _ hw)
  have hown : s.vm.findClass "jdk/internal/util/Preconditions" = some m.cls := findClass_of_methodNamed B.named
  have hlocks := B.notSynchronized
  have hS : va_S (fun q => b ≤ q) s.heap s.heap [] := va_S.rf
  have hl := lv_entry ([.int i, .int n, x]) (n := 3) (by have e9 : (if x.category = 2 then [Slot.val x, Slot.second] else [Slot.val x]) = [Slot.val x] := if_neg (by omega); show ([Slot.val (.int i)] ++ ([Slot.val (.int n)] ++ ((if x.category = 2 then [Slot.val x, Slot.second] else [Slot.val x]) ++ []))).length ≤ 3; rw [e9]; exact Nat.le_refl 3)
  rw [lg_entry_eq]
  generalize (lg_sl ([.int i, .int n, x]) ++ List.replicate (3 - (lg_sl ([.int i, .int n, x])).length) Slot.unset).toArray = ls at hl ⊢
  have hl : lv_has ls 3 [(0, .int i), (1, .int n)] := lv_sub hl [0, 1] rfl
  refine lv_iload_n hx hb (show decode prog_22_method_11_code 0 = .ok (.iload_n 0, 1) by decide +kernel) rfl (lv_at hl 0 rfl) ?_
  refine lv_if_lt (tgt := 9) hx hb (show decode prog_22_method_11_code 1 = .ok (.ifCond .lt 8, 3) by decide +kernel) (by decide) (fun q => absurd q h0) (fun _ => ?_)
  refine lv_iload_n hx hb (show decode prog_22_method_11_code 4 = .ok (.iload_n 0, 1) by decide +kernel) rfl (lv_at hl 0 rfl) ?_
  refine lv_iload_n hx hb (show decode prog_22_method_11_code 5 = .ok (.iload_n 1, 1) by decide +kernel) rfl (lv_at hl 1 rfl) ?_
  refine lv_icmp_lt (tgt := 16) hx hb (show decode prog_22_method_11_code 6 = .ok (.if_icmp .lt 10, 3) by decide +kernel) (by decide) (fun _ => ?_) (fun q => absurd h1 q)
  refine lv_iload_n hx hb (show decode prog_22_method_11_code 16 = .ok (.iload_n 0, 1) by decide +kernel) rfl (lv_at hl 0 rfl) ?_
  exact W.zret (ty := .int) hx hb hr rfl (fun t ht hW => ⟨rfl, ht⟩) hS.2.2 (show decode prog_22_method_11_code 17 = .ok (.ireturn, 1) by decide +kernel)
theorem hv_pblind {D : va_G} {b : Nat} {sa sv : Nat → Nat} {cA : Nat → ClassId} {av : List Value} : FrameBlind (hv_pP D b sa sv cA av) := fun a U g mk q => ⟨q.1, hv_Kx.blind U g mk a q.2.1, q.2.2⟩
theorem hv_ppre {s : State} {D : va_G} {b : Nat} {sa sv : Nat → Nat} {cA : Nat → ClassId} {av : List Value} (hKx : hv_Kx D b sa sv cA s) (hb0 : b ≤ s.heap.size) : ∀ U : State, U.heap = s.heap → s.WarmedH U.vm → hv_pP D b sa sv cA av av.toArray U := fun U hU hW => ⟨rfl, hKx.warm U hW (fun q _ => by rw [hU]), by rw [hU]; exact hb0⟩
theorem hv_pafter {p : Program} {l : Launch} {e : Env} {R : Room} {s : State} {m : MethodId} {args : Array Value} {below : List Frame} {meth : Method} {c : Code} {Q : State → Prop} {locs : List Loc} {la : Array Slot} {st0 rest : List Value} {nc ns pc b : Nat} {rv : Option Value} {a : Array Value} (hr : va_Run p l e R s m args below meth c s.heap locs nc ns 0 0 (F0 m pc la st0) rest (hv_pQ rv a) (fun q => b ≤ q)) (hS : va_S (fun q => b ≤ q) s.heap s.heap locs)
    (kk : ∀ (locs' : List Loc), va_S (fun q => b ≤ q) s.heap s.heap locs' → W p l e R s m args below meth c s.heap locs' nc ns Q (F0 m (pc + 3) la (rv.toList ++ rest))) : W p l e R s m args below meth c s.heap locs nc ns Q (F0 m pc la st0) := by
  intro T hT X
  obtain ⟨v, st₀, t, T', L, h0, X', hL, e1, e2, ⟨hv, hh⟩, st⟩ := hr T hT X
  cases hv
  obtain ⟨t2, a1, b1⟩ := kk (locs ++ L) ⟨Nat.le_refl _, fun q _ _ => rfl, fun q hq => by
      rcases List.mem_append.mp hq with h | h
      · exact hS.2.2 q h
      · exact hL q h⟩ T' (by rw [e1, hh, h0]) X'
  exact ⟨t2, st t2 a1, b1⟩
theorem hv_srecv {s : State} {D : va_G} {b : Nat} {sa sv : Nat → Nat} {cA : Nat → ClassId} {k : Nat} (hKx : hv_Kx D b sa sv cA s) (hk : k < 11) : ∃ cellB : Cell, s.heap[sa k]? = some cellB ∧ cellB.vm.isStatics = false ∧ s.vm.findClass "java/lang/String" = some cellB.cls := by
  obtain ⟨cell, g1, g2, g3, -⟩ := (hKx.2.2.2.2.2.1.1 k hk).1
  exact ⟨cell, g1, g2, g3⟩
theorem mT_sck (l : Launch) (D : va_G) (b : Nat) (sa sv : Nat → Nat) (cA : Nat → ClassId) (d : Nat) {i n : Int32} (h0 : ¬ i < 0) (h1 : i < n) : Met l yT_sck wT_sck (hv_r0 (d + 1)) (hv_pP D b sa sv cA ([.int i, .int n])) (hv_pQ none) 0 0 (fun q => b ≤ q) := by
  refine Met.ofW (cc := prog_17_method_155_code) (maxL := 2) (ret := none) (by decide) rfl ?_
  intro p e s m args below meth c s₁ B hml hv
  obtain ⟨rfl, hKx, hb0⟩ := hv
  have hx := B.exec
  have hb := B.bytes
  have hr := B.returns
  have hts0 := atoms_spec (ws := wT_sck) B.pre
  have hts : ∀ w ∈ hv_G, w.before _ s = true := fun w hw => hts0 w (List.mem_cons_of_mem _ hw)
  have hown : s.vm.findClass "java/lang/String" = some m.cls := findClass_of_methodNamed B.named
  have hlocks := B.notSynchronized
  have hS : va_S (fun q => b ≤ q) s.heap s.heap [] := va_S.rf
  have hl := lv_entry ([.int i, .int n]) (n := 2) (Nat.le_of_ble_eq_true rfl)
  rw [lg_entry_eq]
  generalize (lg_sl ([.int i, .int n]) ++ List.replicate (2 - (lg_sl ([.int i, .int n])).length) Slot.unset).toArray = ls at hl ⊢
  have hl : lv_has ls 2 [(0, .int i), (1, .int n)] := hl
  refine lv_iload_n hx hb (show decode prog_17_method_155_code 0 = .ok (.iload_n 0, 1) by decide +kernel) rfl (lv_at hl 0 rfl) ?_
  refine lv_iload_n hx hb (show decode prog_17_method_155_code 1 = .ok (.iload_n 1, 1) by decide +kernel) rfl (lv_at hl 1 rfl) ?_
  obtain ⟨x, hxc, hxz⟩ : ∃ x : Value, x.category = 1 ∧ va_Z "jdk/internal/util/Preconditions" "SIOOBE_FORMATTER" "Ljava/util/function/BiFunction;" x (fun q => b ≤ q) s s.heap := by
    rcases hKx.2.2.2.2.2.2.2 with h | ⟨t, h⟩
    · exact ⟨_, rfl, h⟩
    · exact ⟨_, rfl, h⟩
  refine va_gets hx hb hxz hS hown (hts _ (hv_inG (k := qFo) (by decide +kernel) rfl)) (fun _ z => z) (show decode prog_17_method_155_code 2 = .ok (.getstatic 1053, 3) by decide +kernel) ?_
  refine hv_pafter (va_runS (As := [.int i, .int n, x]) (rest := []) ⟨hx, hb, hml, hown, hts⟩ (mT_pck l D b sa sv cA d h0 h1 hxc) (va_cwS 3 hts (hv_good (fun w hw => by
      unfold va_wsS at hw
      rcases List.mem_append.mp hw with hw | hw
      · simp only [List.mem_cons, List.not_mem_nil, or_false] at hw
        rcases hw with rfl | rfl | rfl
        · exact hv_inG (k := qm1059) (by decide +kernel) rfl
        · exact hv_inG (k := qtP) (by decide +kernel) rfl
        · exact hv_inG (k := qIP) (by decide +kernel) rfl
      · exact gT_pck w hw)) rfl rfl rfl (by decide +kernel) ⟨by show _ ≤ _; simp only [hv_r0, hv_rm, headSpec]; omega, by simp only [hv_r0, hv_rm, headSpec]; omega⟩) ⟨hv_pblind, hv_ppre hKx hb0⟩ rfl rfl hl.1 rfl (lv_room (Nat.le_of_ble_eq_true rfl)) (show decode prog_17_method_155_code 5 = .ok (.invokestatic 1059, 3) by decide +kernel) ⟨Nat.zero_le _, Nat.zero_le _⟩) hS (fun locs hS => ?_)
  refine lv_pop (va := .int i) hx hb (show decode prog_17_method_155_code 8 = .ok (.pop, 1) by decide +kernel) rfl ?_
  exact W.vret hx hb hr (fun t ht hW => ⟨rfl, ht⟩) hS.2.2 (show decode prog_17_method_155_code 9 = .ok (.return_, 1) by decide +kernel)
theorem hv_shr0 (x : Int32) : x >>> ((0 : Int32) &&& 31) = x := by simp
theorem hv_SB_ok : (List.range 11).all (fun k => (List.range (hv_SL.getD k 0)).all (fun j => decide ((((hv_SB.getD k []).getD j 0 &&& 255).toUInt32 % 65536).toInt32 = (hv_SB.getD k []).getD j 0 ∧ narrow .char (.int ((hv_SB.getD k []).getD j 0)) = .int ((hv_SB.getD k []).getD j 0)))) = true := by decide +kernel
theorem hv_SB_at {k j : Nat} (hk : k < 11) (hj : j < hv_SL.getD k 0) : (((hv_SB.getD k []).getD j 0 &&& 255).toUInt32 % 65536).toInt32 = (hv_SB.getD k []).getD j 0 ∧ narrow .char (.int ((hv_SB.getD k []).getD j 0)) = .int ((hv_SB.getD k []).getD j 0) := of_decide_eq_true (List.all_eq_true.mp (List.all_eq_true.mp hv_SB_ok k (List.mem_range.mpr hk)) j (List.mem_range.mpr hj))
theorem hv_SL_ok : (List.range 11).all (fun k => decide (hv_SL.getD k 0 < 2 ^ 31)) = true := by decide +kernel
theorem hv_SL_at {k : Nat} (hk : k < 11) : hv_SL.getD k 0 < 2 ^ 31 := of_decide_eq_true (List.all_eq_true.mp hv_SL_ok k (List.mem_range.mpr hk))
theorem hv_ltlen {i : Int32} {n : Nat} (h0 : ¬ i < 0) (h1 : i.toNatClampNeg < n) (hn : n < 2 ^ 31) : i < Int32.ofNat n := by
  obtain ⟨j, hj, rfl⟩ := nI_of h0
  rw [nI_clamp hj] at h1
  exact nI_lt h1 hn
theorem mT_lch (l : Launch) (D : va_G) (b : Nat) (sa sv : Nat → Nat) (cA : Nat → ClassId) (d : Nat) {k : Nat} {i : Int32} (hk : k < 11) (h0 : ¬ i < 0) (h1 : i.toNatClampNeg < hv_SL.getD k 0) : Met l yT_lch wT_lch (hv_r0 (d + 2)) (hv_pP D b sa sv cA ([.ref (sv k), .int i])) (hv_pQ (some (.int ((hv_SB.getD k []).getD i.toNatClampNeg 0)))) 0 0 (fun q => b ≤ q) := by
  refine Met.ofW (cc := prog_18_method_2_code) (maxL := 2) (ret := (some .char)) (by decide) rfl ?_
  intro p e s m args below meth c s₁ B hml hv
  obtain ⟨rfl, hKx, hb0⟩ := hv
  have hx := B.exec
  have hb := B.bytes
  have hr := B.returns
  have hts0 := atoms_spec (ws := wT_lch) B.pre
  have hts : ∀ w ∈ hv_G, w.before _ s = true := fun w hw => hts0 w (List.mem_cons_of_mem _ hw)
  have hown : s.vm.findClass "java/lang/StringLatin1" = some m.cls := findClass_of_methodNamed B.named
  have hlocks := B.notSynchronized
  have hS : va_S (fun q => b ≤ q) s.heap s.heap [] := va_S.rf
  have hl := lv_entry ([.ref (sv k), .int i]) (n := 2) (Nat.le_of_ble_eq_true rfl)
  rw [lg_entry_eq]
  generalize (lg_sl ([.ref (sv k), .int i]) ++ List.replicate (2 - (lg_sl ([.ref (sv k), .int i])).length) Slot.unset).toArray = ls at hl ⊢
  have hl : lv_has ls 2 [(0, .ref (sv k)), (1, .int i)] := hl
  have hT := (hKx.2.2.2.2.2.1.1 k hk).2.2.2
  refine lv_iload_n hx hb (show decode prog_18_method_2_code 0 = .ok (.iload_n 1, 1) by decide +kernel) rfl (lv_at hl 1 rfl) ?_
  refine lv_aload_n hx hb (show decode prog_18_method_2_code 1 = .ok (.aload_n 0, 1) by decide +kernel) rfl (lv_at hl 0 rfl) ?_
  refine va_tlen hx hb hT hS rfl (show decode prog_18_method_2_code 2 = .ok (.arraylength, 1) by decide +kernel) ?_
  refine hv_pafter (va_runS (As := [.int i, .int (Int32.ofNat (hv_SL.getD k 0))]) (rest := []) ⟨hx, hb, hml, hown, hts⟩ (mT_sck l D b sa sv cA d h0 (hv_ltlen h0 h1 (hv_SL_at hk))) (va_cwS 2 hts (hv_good (fun w hw => by
      unfold va_wsS at hw
      rcases List.mem_append.mp hw with hw | hw
      · simp only [List.mem_cons, List.not_mem_nil, or_false] at hw
        rcases hw with rfl | rfl | rfl
        · exact hv_inG (k := qm9) (by decide +kernel) rfl
        · exact hv_inG (k := qtS) (by decide +kernel) rfl
        · exact hv_inG (k := qIS) (by decide +kernel) rfl
      · exact gT_sck w hw)) rfl rfl rfl (by decide +kernel) ⟨by show _ ≤ _; simp only [hv_r0, hv_rm, headSpec]; omega, by simp only [hv_r0, hv_rm, headSpec]; omega⟩) ⟨hv_pblind, hv_ppre hKx hb0⟩ rfl rfl hl.1 rfl (lv_room (Nat.le_of_ble_eq_true rfl)) (show decode prog_18_method_2_code 3 = .ok (.invokestatic 9, 3) by decide +kernel) ⟨Nat.zero_le _, Nat.zero_le _⟩) hS (fun locs hS => ?_)
  refine lv_aload_n hx hb (show decode prog_18_method_2_code 6 = .ok (.aload_n 0, 1) by decide +kernel) rfl (lv_at hl 0 rfl) ?_
  refine lv_iload_n hx hb (show decode prog_18_method_2_code 7 = .ok (.iload_n 1, 1) by decide +kernel) rfl (lv_at hl 1 rfl) ?_
  refine va_tb hx hb hT hS (fun q => q.elim h0 (fun z => absurd h1 (Nat.not_lt.mpr z))) rfl (show decode prog_18_method_2_code 8 = .ok (.baload, 1) by decide +kernel) ?_
  refine lv_sipush (v := 255) hx hb (show decode prog_18_method_2_code 9 = .ok (.sipush 255, 3) by decide +kernel) (by decide) ?_
  refine lv_iand hx hb (show decode prog_18_method_2_code 12 = .ok (.iand, 1) by decide +kernel) ?_
  refine lv_i2c hx hb (show decode prog_18_method_2_code 13 = .ok (.i2c, 1) by decide +kernel) (hv_SB_at hk h1).1 ?_
  exact W.zret (ty := .char) hx hb hr (hv_SB_at hk h1).2 (fun t ht hW => ⟨rfl, ht⟩) hS.2.2 (show decode prog_18_method_2_code 14 = .ok (.ireturn, 1) by decide +kernel)
theorem mT_length (l : Launch) (D : va_G) (b : Nat) (sa sv : Nat → Nat) (cA : Nat → ClassId) (d : Nat) {k : Nat} (hk : k < 11) (h : hv_H) : Met l (hv_y 305) (hv_ws 305) (hv_rm (d + 5) 305) (hv_Pc D vwCl b sa cA (hv_Kx D b sa sv cA) [.retAddr k] h) (hv_Qc D vwCl b sa cA (some (.int (Int32.ofNat (hv_SL.getD k 0)))) h) 0 0 (fun q => b ≤ q) := by
  refine Met.ofW (cc := prog_17_method_54_code) (maxL := 1) (ret := (some .int)) (by decide) rfl ?_
  intro p e s m args below meth c s₁ B hml hv
  obtain ⟨rfl, hP, hKx⟩ := hv
  have hb0 : b ≤ s.heap.size := by rw [hP.1]; exact Nat.le_add_right _ _
  have hx := B.exec
  have hb := B.bytes
  have hr := B.returns
  have hts0 := atoms_spec (ws := hv_ws 305) B.pre
  have hts : ∀ w ∈ hv_G, w.before _ s = true := fun w hw => hts0 w (List.mem_cons_of_mem _ hw)
  have hown : s.vm.findClass "java/lang/String" = some m.cls := findClass_of_methodNamed B.named
  have hlocks := B.notSynchronized
  have hS : va_S (fun q => b ≤ q) s.heap s.heap [] := va_S.rf
  show W p l e _ s m ([.ref (sa k)]).toArray below meth c s.heap [] 0 0 (MQ below _ _ s 0 0 _) (entryFrame m ([.ref (sa k)]).toArray 1)
  have hl := lv_entry ([.ref (sa k)]) (n := 1) (Nat.le_of_ble_eq_true rfl)
  rw [lg_entry_eq]
  generalize (lg_sl ([.ref (sa k)]) ++ List.replicate (1 - (lg_sl ([.ref (sa k)])).length) Slot.unset).toArray = ls at hl ⊢
  have hl : lv_has ls 1 [(0, .ref (sa k))] := hl
  refine lv_aload_n hx hb (show decode prog_17_method_54_code 0 = .ok (.aload_n 0, 1) by decide +kernel) rfl (lv_at hl 0 rfl) ?_
  refine vk_getf hx hb (hKx.2.2.2.2.2.1.1 k hk).2.2.1 hS hown (hts _ (hv_inG (k := qVa) (by decide +kernel) rfl)) (fun _ z => z) (show decode prog_17_method_54_code 1 = .ok (.getfield 9, 3) by decide +kernel) ?_
  refine va_tlen hx hb (hKx.2.2.2.2.2.1.1 k hk).2.2.2 hS rfl (show decode prog_17_method_54_code 4 = .ok (.arraylength, 1) by decide +kernel) ?_
  refine lv_aload_n hx hb (show decode prog_17_method_54_code 5 = .ok (.aload_n 0, 1) by decide +kernel) rfl (lv_at hl 0 rfl) ?_
  refine hv_pafter (va_runV (As := []) (rest := [.int (Int32.ofNat (hv_SL.getD k 0))]) ⟨hx, hb, hml, hown, hts⟩ (mT_coder l D b sa sv cA d hk) (cwV 0 hts (hv_good (fun w hw => by
      unfold wsV at hw
      rcases List.mem_append.mp hw with hw | hw
      · simp only [List.mem_cons, List.not_mem_nil, or_false] at hw
        rcases hw with rfl | rfl | rfl | rfl
        · exact hv_inG (k := qm335) (by decide +kernel) rfl
        · exact hv_inG (k := qiC) (by decide +kernel) rfl
        · exact hv_inG (k := qsC) (by decide +kernel) rfl
        · exact hv_inG (k := qIS) (by decide +kernel) rfl
      · exact gT_coder w hw)) rfl rfl rfl (by decide +kernel) ⟨by show _ ≤ _; simp only [hv_r0, hv_rm, headSpec]; omega, by simp only [hv_r0, hv_rm, headSpec]; omega⟩) ⟨hv_pblind, hv_srecv hKx hk, hv_ppre hKx hb0⟩ rfl rfl hl.1 rfl (lv_room (Nat.le_of_ble_eq_true rfl)) (show decode prog_17_method_54_code 6 = .ok (.invokevirtual 335, 3) by decide +kernel) ⟨Nat.zero_le _, Nat.zero_le _⟩) hS (fun locs hS => ?_)
  refine lv_ishr hx hb (show decode prog_17_method_54_code 9 = .ok (.ishr, 1) by decide +kernel) ?_
  rw [show (Int32.ofNat (hv_SL.getD k 0)) >>> ((0 : Int32) &&& 31) = Int32.ofNat (hv_SL.getD k 0) from hv_shr0 _]
  exact W.zret (ty := .int) hx hb hr rfl (fun t ht hW => ⟨rfl, by rw [ht]; exact hP, by rw [ht]; exact Nat.le_refl _, fun q hq => by rw [ht]⟩) hS.2.2 (show decode prog_17_method_54_code 10 = .ok (.ireturn, 1) by decide +kernel)
theorem mT_charAt (l : Launch) (D : va_G) (b : Nat) (sa sv : Nat → Nat) (cA : Nat → ClassId) (d : Nat) {k : Nat} {i : Int32} (hk : k < 11) (h0 : ¬ i < 0) (h1 : i.toNatClampNeg < hv_SL.getD k 0) (h : hv_H) : Met l (hv_y 306) (hv_ws 306) (hv_rm (d + 5) 306) (hv_Pc D vwCl b sa cA (hv_Kx D b sa sv cA) [.retAddr k, .int i] h) (hv_Qc D vwCl b sa cA (some (.int ((hv_SB.getD k []).getD i.toNatClampNeg 0))) h) 0 0 (fun q => b ≤ q) := by
  refine Met.ofW (cc := prog_17_method_56_code) (maxL := 2) (ret := (some .char)) (by decide) rfl ?_
  intro p e s m args below meth c s₁ B hml hv
  obtain ⟨rfl, hP, hKx⟩ := hv
  have hb0 : b ≤ s.heap.size := by rw [hP.1]; exact Nat.le_add_right _ _
  have hx := B.exec
  have hb := B.bytes
  have hr := B.returns
  have hts0 := atoms_spec (ws := hv_ws 306) B.pre
  have hts : ∀ w ∈ hv_G, w.before _ s = true := fun w hw => hts0 w (List.mem_cons_of_mem _ hw)
  have hown : s.vm.findClass "java/lang/String" = some m.cls := findClass_of_methodNamed B.named
  have hlocks := B.notSynchronized
  have hS : va_S (fun q => b ≤ q) s.heap s.heap [] := va_S.rf
  show W p l e _ s m ([.ref (sa k), .int i]).toArray below meth c s.heap [] 0 0 (MQ below _ _ s 0 0 _) (entryFrame m ([.ref (sa k), .int i]).toArray 2)
  have hl := lv_entry ([.ref (sa k), .int i]) (n := 2) (Nat.le_of_ble_eq_true rfl)
  rw [lg_entry_eq]
  generalize (lg_sl ([.ref (sa k), .int i]) ++ List.replicate (2 - (lg_sl ([.ref (sa k), .int i])).length) Slot.unset).toArray = ls at hl ⊢
  have hl : lv_has ls 2 [(0, .ref (sa k)), (1, .int i)] := hl
  refine lv_aload_n hx hb (show decode prog_17_method_56_code 0 = .ok (.aload_n 0, 1) by decide +kernel) rfl (lv_at hl 0 rfl) ?_
  refine hv_pafter (va_runV (As := []) (rest := []) ⟨hx, hb, hml, hown, hts⟩ (mT_isL l D b sa sv cA d hk) (cwV 0 hts (hv_good (fun w hw => by
      unfold wsV at hw
      rcases List.mem_append.mp hw with hw | hw
      · simp only [List.mem_cons, List.not_mem_nil, or_false] at hw
        rcases hw with rfl | rfl | rfl | rfl
        · exact hv_inG (k := qm492) (by decide +kernel) rfl
        · exact hv_inG (k := qiL) (by decide +kernel) rfl
        · exact hv_inG (k := qsL) (by decide +kernel) rfl
        · exact hv_inG (k := qIS) (by decide +kernel) rfl
      · exact gT_isL w hw)) rfl rfl rfl (by decide +kernel) ⟨by show _ ≤ _; simp only [hv_r0, hv_rm, headSpec]; omega, by simp only [hv_r0, hv_rm, headSpec]; omega⟩) ⟨hv_pblind, hv_srecv hKx hk, hv_ppre hKx hb0⟩ rfl rfl hl.1 rfl (lv_room (Nat.le_of_ble_eq_true rfl)) (show decode prog_17_method_56_code 1 = .ok (.invokevirtual 492, 3) by decide +kernel) ⟨Nat.zero_le _, Nat.zero_le _⟩) hS (fun locs hS => ?_)
  refine lv_if_eq (tgt := 16) hx hb (show decode prog_17_method_56_code 4 = .ok (.ifCond .eq 12, 3) by decide +kernel) (by decide) (fun q => absurd q (by decide)) (fun _ => ?_)
  refine lv_aload_n hx hb (show decode prog_17_method_56_code 7 = .ok (.aload_n 0, 1) by decide +kernel) rfl (lv_at hl 0 rfl) ?_
  refine vk_getf hx hb (hKx.2.2.2.2.2.1.1 k hk).2.2.1 hS hown (hts _ (hv_inG (k := qVa) (by decide +kernel) rfl)) (fun _ z => z) (show decode prog_17_method_56_code 8 = .ok (.getfield 9, 3) by decide +kernel) ?_
  refine lv_iload_n hx hb (show decode prog_17_method_56_code 11 = .ok (.iload_n 1, 1) by decide +kernel) rfl (lv_at hl 1 rfl) ?_
  refine hv_pafter (va_runS (As := [.ref (sv k), .int i]) (rest := []) ⟨hx, hb, hml, hown, hts⟩ (mT_lch l D b sa sv cA d hk h0 h1) (va_cwS 2 hts (hv_good (fun w hw => by
      unfold va_wsS at hw
      rcases List.mem_append.mp hw with hw | hw
      · simp only [List.mem_cons, List.not_mem_nil, or_false] at hw
        rcases hw with rfl | rfl | rfl
        · exact hv_inG (k := qm495) (by decide +kernel) rfl
        · exact hv_inG (k := qtL) (by decide +kernel) rfl
        · exact hv_inG (k := qIL) (by decide +kernel) rfl
      · exact gT_lch w hw)) rfl rfl rfl (by decide +kernel) ⟨by show _ ≤ _; simp only [hv_r0, hv_rm, headSpec]; omega, by simp only [hv_r0, hv_rm, headSpec]; omega⟩) ⟨hv_pblind, hv_ppre hKx hb0⟩ rfl rfl hl.1 rfl (lv_room (Nat.le_of_ble_eq_true rfl)) (show decode prog_17_method_56_code 12 = .ok (.invokestatic 495, 3) by decide +kernel) ⟨Nat.zero_le _, Nat.zero_le _⟩) hS (fun locs hS => ?_)
  exact W.zret (ty := .char) hx hb hr (hv_SB_at hk h1).2 (fun t ht hW => ⟨rfl, by rw [ht]; exact hP, by rw [ht]; exact Nat.le_refl _, fun q hq => by rw [ht]⟩) hS.2.2 (show decode prog_17_method_56_code 15 = .ok (.ireturn, 1) by decide +kernel)
end HVX
