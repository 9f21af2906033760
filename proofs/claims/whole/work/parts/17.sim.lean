/-! Each method keeps to the system's meaning: by the depth of calls. -/
def hv_rm (d j : Nat) : Room := { frames := d, cells := (hv_cm j).1, slots := (hv_cm j).2, locals := 100 * d }
theorem hv_good {ws : List Jvm.Cond} (h : ∀ w ∈ ws, w ∈ hv_G) : GoodIn hv_G ws := fun w hw => ⟨h w hw, good_of_word (List.mem_filter.mp (h w hw)).2⟩
theorem hv_wsG {j : Nat} (hc : Jvm.Cond.code (hv_y j) (hv_cc j) (hv_nL j) (hv_rt j) ∈ lw_tbl) : ∀ w ∈ hv_ws j, w ∈ hv_G := by
  intro w hw
  rcases List.mem_cons.mp hw with rfl | h
  · exact List.mem_filter.mpr ⟨hc, rfl⟩
  · exact h
def hv_Sim (l : Launch) (D : va_G) (b : Nat) (sa sv : Nat → Nat) (cA : Nat → ClassId) (call : hv_F) (d : Nat) : Prop := ∀ (j : Nat) (as : List Value) (h : hv_H) (rv : Option Value) (h' : hv_H), call j as h = some (rv, h') → Met l (hv_y j) (hv_ws j) (hv_rm d j) (hv_Pc D vwCl b sa cA (hv_Kx D b sa sv cA) as h) (hv_Qc D vwCl b sa cA rv h') (hv_cm j).1 (hv_cm j).2 (fun q => b ≤ q)
section HVS
variable {p : Program} {l : Launch} {e : Env} {R : Room} {s : State} {m : MethodId} {args : Array Value} {below : List Frame} {meth : Method} {c : Code} {Q : State → Prop} {cc : ByteArray} {nL own : Nat} {ini : Bool} {D : va_G} {b : Nat} {sa sv : Nat → Nat} {cA : Nat → ClassId} {mc ms : Nat} {call : hv_F}
/-- a call of a text's own method -/
theorem hv_clX {y : MethodName} {bytes : ByteArray} {maxL kc ks n index : Nat} {ret : Option FieldType} {ws Ts : List Jvm.Cond} {rm : Room} {ow : String} {as : List Value} {h h' : hv_H} {rv : Option Value} {pc : Nat} {rc : Option Nat}
    (S : CallFix p m c cc nL s args Ts ow) (hM : Met l y ws rm (hv_Pc D vwCl b sa cA (hv_Kx D b sa sv cA) as h) (hv_Qc D vwCl b sa cA rv h') kc ks (fun q => b ≤ q)) (hKx : hv_Kx D b sa sv cA s) (hb0 : b ≤ s.heap.size) (cw : CallW R s args ow "java/lang/String" index y bytes maxL ret ws rm kc ks n) (hk : ∃ k as', as = .retAddr k :: as' ∧ k < 11) (hlen : as.length = n + 1) (hd : decode cc pc = .ok (.invokevirtual index, 3)) : hv_CL p l e R s m args below meth c Q D vwCl b sa cA nL pc (kc, ks) rc as h rv h' := by
  intro H locs la nc ns rest hla hrc hP hS hrest hlim kk
  obtain ⟨k, as', rfl, hk⟩ := hk
  have hcell : ∃ cellB : Cell, H[sa k]? = some cellB ∧ cellB.vm.isStatics = false ∧ s.vm.findClass "java/lang/String" = some cellB.cls := by
    obtain ⟨cell, g1, g2, g3, g4⟩ := (hKx.2.2.2.2.2.1.1 k hk).1
    exact ⟨cell, by rw [hS.2.1 (sa k) (Array.getElem?_eq_some_iff.mp g1).1 g4]; exact g1, g2, g3⟩
  refine hv_after (va_runV (As := as'.map (hv_cv b sa)) (b := sa k) (rest := rest) S hM cw ⟨hv_blind hv_Kx.blind, hcell, hv_pre hKx.warm hb0 hP hS⟩ rfl ?_ hla ?_ (lv_room hrest) hd hlim) hS kk
  · rw [List.length_map]
    simpa using hlen
  · show ((hv_cv b sa (.retAddr k) :: as'.map (hv_cv b sa)).reverse ++ rest) = _
    rw [List.reverse_cons, List.append_assoc]
    rfl
theorem hv_own {j : Nat} (hj : j < 305) : (match hv_vk j with
    | none => Jvm.Cond.static (hv_y j) ∈ lw_tbl
    | some ci => Jvm.Cond.instanceMethod (hv_y j) ∈ lw_tbl ∧ (hv_y j).cls = hv_on ci ∧ ci < 12 ∧ (hv_ii j = true ∨ Jvm.Cond.selects (hv_y j).cls (hv_y j) (hv_y j) ∈ lw_tbl)) ∧ Jvm.Cond.initialized (hv_y j).cls ∈ lw_tbl ∧ plainFor (hv_y j) = true ∧ (hv_y j).cls = hv_on (hv_ow j) ∧ hv_nL j ≤ 81 ∧ (hv_ii j = true ↔ (hv_y j).name = "<init>") ∧ (hv_y j).cls ≠ "java/lang/invoke/MethodHandle" ∧ (hv_y j).cls ≠ "java/lang/invoke/VarHandle" := by
  have h := hv_MP_ok hj
  unfold hv_MPok at h
  simp only [Bool.and_eq_true, decide_eq_true_eq, beq_iff_eq] at h
  obtain ⟨⟨⟨⟨⟨⟨h1, h2⟩, h3⟩, h4⟩, h5⟩, h6⟩, h7⟩ := h
  refine ⟨?_, hv_inT_mem h2, h3, h4, h5, by rw [h6]; exact decide_eq_true_iff, h7.1, h7.2⟩
  cases hv : hv_vk j with
  | none =>
    rw [hv] at h1
    exact hv_inT_mem h1
  | some ci =>
    rw [hv] at h1
    simp only [Bool.and_eq_true, decide_eq_true_eq, Bool.or_eq_true] at h1
    obtain ⟨⟨⟨k1, k2⟩, k3⟩, k4⟩ := h1
    exact ⟨hv_inT_mem k1, k2, k3, k4.imp id hv_inT_mem⟩
theorem hv_xc {d : Nat} (IH : hv_Sim l D b sa sv cA call d) (hstr : ∀ (j : Nat) (as : List Value) (h : hv_H) (r : hv_R), 305 ≤ j → call j as h = some r → (j = 305 ∧ ∃ k, as = [.retAddr k] ∧ k < 11) ∨ (j = 306 ∧ ∃ k i, as = [.retAddr k, .int i] ∧ k < 11)) (X : hv_X p R s m args meth c cc nL own ini D b sa sv cA mc ms) (hb0 : b ≤ s.heap.size) (hRf : d + 1 ≤ R.frames) (hRl : 100 * d + 100 ≤ R.locals) : hv_XC p l e R s m args below meth c Q cc nL own D b sa cA call := by
  intro pc j n hck as h rv h' hlen hcall
  have hM := IH j as h rv h' hcall
  obtain ⟨⟨hx, hb, hml, hown⟩, hts, hKx, -, -⟩ := X
  have S : CallFix p m c cc nL s args hv_G (hv_on own) := ⟨hx, hb, hml, hown, hts⟩
  have inG : ∀ {w : Jvm.Cond}, w ∈ lw_tbl → goodWord w = true → w ∈ hv_G := fun h1 h2 => List.mem_filter.mpr ⟨h1, h2⟩
  unfold hv_ckc at hck
  split at hck
  · rename_i x hd
    rcases (Bool.or_eq_true _ _).mp hck with h1 | h1
    · obtain ⟨q, hq⟩ := hv_any4_mem h1
      have h2 := List.all_eq_true.mp hv_MV_ok _ hq
      have h3 := List.all_eq_true.mp hv_ar_V _ hq
      simp only [Bool.and_eq_true, decide_eq_true_eq, Bool.not_eq_true'] at h3
      obtain ⟨⟨⟨⟨hj, har⟩, hn1⟩, hii⟩, hvs⟩ := h3
      obtain ⟨o1, o2, o3, o4, o5, o6, o7, o8⟩ := hv_own hj
      obtain ⟨ci, hci⟩ := Option.isSome_iff_exists.mp hvs
      rw [hci] at o1 ⊢
      obtain ⟨p1, p2, p3, p4⟩ := o1
      have p5 : Jvm.Cond.selects (hv_y j).cls (hv_y j) (hv_y j) ∈ lw_tbl := by
        rcases p4 with p4 | p4
        · rw [p4] at hii; cases hii
        · exact p4
      refine hv_clV S hM hKx.warm hv_Kx.blind hb0 hKx.1 (hv_cl p3) (cwV (n - 1) hts (hv_good ?_) rfl rfl rfl ⟨p2, o7, o8, har⟩ ⟨hRf, ?_⟩) (by omega) hd
      · intro w hw
        unfold wsV at hw
        rcases List.mem_append.mp hw with hw | hw
        · simp only [List.mem_cons, List.not_mem_nil, or_false] at hw
          rcases hw with rfl | rfl | rfl | rfl
          · exact hv_inG h2 rfl
          · exact inG p1 rfl
          · rw [← p2]; exact inG p5 rfl
          · rw [← p2]; exact inG o2 rfl
        · exact hv_wsG (hv_code hj) w hw
      · show 8 + (hv_nL j + 11) + 100 * d ≤ R.locals
        omega
    · obtain ⟨q, hq⟩ := hv_any4_mem h1
      have h2 := List.all_eq_true.mp hv_MX_ok _ hq
      simp only [Bool.and_eq_true, decide_eq_true_eq] at h2
      obtain ⟨⟨h2a, h2b⟩, h2c⟩ := h2
      have hres := hstr j as h (rv, h') h2b hcall
      have hkk : ∃ k as', as = .retAddr k :: as' ∧ k < 11 := by
        rcases hres with ⟨-, k, h5, h6⟩ | ⟨-, k, i, h5, h6⟩
        · exact ⟨k, _, h5, h6⟩
        · exact ⟨k, _, h5, h6⟩
      have hjj : j = 305 ∨ j = 306 := hres.imp (fun z => z.1) (fun z => z.1)
      have hw5 : ∀ w ∈ wsV (hv_on own) x "java/lang/String" (hv_y j) (hv_ws j), w ∈ hv_G := by
        intro w hw
        unfold wsV at hw
        rcases List.mem_append.mp hw with hw | hw
        · simp only [List.mem_cons, List.not_mem_nil, or_false] at hw
          rcases hw with rfl | rfl | rfl | rfl
          · exact hv_inG h2a rfl
          · rcases hjj with rfl | rfl
            · exact hv_inG (k := hv_s1) (by decide +kernel) rfl
            · exact hv_inG (k := hv_s2) (by decide +kernel) rfl
          · rcases hjj with rfl | rfl
            · exact hv_inG (k := hv_s3) (by decide +kernel) rfl
            · exact hv_inG (k := hv_s4) (by decide +kernel) rfl
          · exact hv_inG (k := hv_s5) (by decide +kernel) rfl
        · rcases hjj with rfl | rfl
          · exact hv_wsG hv_code_305 w hw
          · exact hv_wsG hv_code_306 w hw
      have hds : (hv_y j).cls = "java/lang/String" ∧ (hv_y j).cls ≠ "java/lang/invoke/MethodHandle" ∧ (hv_y j).cls ≠ "java/lang/invoke/VarHandle" ∧ (parseMethodDescriptor (hv_y j).desc).map (fun d => d.parameters.length) = some (n - 1) := by
        rcases hjj with rfl | rfl
        · exact ⟨rfl, by decide +kernel, by decide +kernel, h2c⟩
        · exact ⟨rfl, by decide +kernel, by decide +kernel, h2c⟩
      have hn1 : as.length = n - 1 + 1 := by
        obtain ⟨k, as', h5, -⟩ := hkk
        rw [hlen]
        have : 1 ≤ n := by rw [← hlen, h5]; simp
        omega
      have hnl : hv_nL j ≤ 81 := by rcases hjj with rfl | rfl <;> decide +kernel
      refine hv_clX S hM hKx hb0 (cwV (n - 1) hts (hv_good hw5) rfl rfl rfl hds ⟨hRf, ?_⟩) hkk hn1 hd
      show 8 + (hv_nL j + 11) + 100 * d ≤ R.locals
      omega
  · rename_i x hd
    have h3 : (own, x, j, n) ∈ (hv_MS ++ hv_MSN).map (fun z => (z.1, z.2.1, z.2.2.1, z.2.2.2.1)) := by
      rcases (Bool.or_eq_true _ _).mp hck with h1 | h1
      · obtain ⟨q, hq⟩ := hv_any4_mem h1
        exact List.mem_map.mpr ⟨_, List.mem_append_left _ hq, rfl⟩
      · obtain ⟨q, hq⟩ := hv_any4_mem h1
        exact List.mem_map.mpr ⟨_, List.mem_append_right _ hq, rfl⟩
    obtain ⟨z, hz, hze⟩ := List.mem_map.mp h3
    have h4 := List.all_eq_true.mp hv_ar_S _ hz
    simp only [Prod.mk.injEq] at hze
    obtain ⟨z1, z2, z3, z4⟩ := hze
    rw [z3, z4] at h4
    simp only [Bool.and_eq_true, decide_eq_true_eq] at h4
    obtain ⟨⟨hj, har⟩, hvn⟩ := h4
    obtain ⟨o1, o2, o3, o4, o5, o6, o7, o8⟩ := hv_own hj
    have hci : hv_vk j = none := Option.isNone_iff_eq_none.mp hvn
    rw [hci] at o1
    have hR : (hv_rm d j).frames + 1 ≤ R.frames ∧ 8 + (hv_nL j + 11) + (hv_rm d j).locals ≤ R.locals := ⟨hRf, by show 8 + (hv_nL j + 11) + 100 * d ≤ R.locals; omega⟩
    rcases (Bool.or_eq_true _ _).mp hck with h1 | h1
    · obtain ⟨q, hq⟩ := hv_any4_mem h1
      have h2 := List.all_eq_true.mp hv_MS_ok _ hq
      refine hv_clS S hM hKx.warm hv_Kx.blind hb0 (va_cwS n hts (hv_good ?_) rfl rfl rfl ⟨o7, o8, har⟩ hR) hlen hd
      intro w hw
      unfold va_wsS at hw
      rcases List.mem_append.mp hw with hw | hw
      · simp only [List.mem_cons, List.not_mem_nil, or_false] at hw
        rcases hw with rfl | rfl | rfl
        · exact hv_inG h2 rfl
        · exact inG o1 rfl
        · exact inG o2 rfl
      · exact hv_wsG (hv_code hj) w hw
    · obtain ⟨q, hq⟩ := hv_any4_mem h1
      have h2 := List.all_eq_true.mp hv_MSN_ok _ hq
      exact hv_clSN S hM hKx.warm hv_Kx.blind hb0 ⟨va_cnB n hts (hv_good (hv_wsG (hv_code hj))) rfl rfl rfl (hKx.2.1 _ (hv_inT_mem h2) rfl) (hts _ (inG o2 rfl)) ⟨o7, o8, har⟩ hR, hts _ (inG o1 rfl), trivial⟩ hlen hd
  · rename_i x hd
    have h3 : (own, x, j, n) ∈ (hv_MI ++ hv_MIN).map (fun z => (z.1, z.2.1, z.2.2.1, z.2.2.2.1)) := by
      rcases (Bool.or_eq_true _ _).mp hck with h1 | h1
      · obtain ⟨q, hq⟩ := hv_any4_mem h1
        exact List.mem_map.mpr ⟨_, List.mem_append_left _ hq, rfl⟩
      · obtain ⟨q, hq⟩ := hv_any4_mem h1
        exact List.mem_map.mpr ⟨_, List.mem_append_right _ hq, rfl⟩
    obtain ⟨z, hz, hze⟩ := List.mem_map.mp h3
    have h4 := List.all_eq_true.mp hv_ar_I _ hz
    simp only [Prod.mk.injEq] at hze
    obtain ⟨z1, z2, z3, z4⟩ := hze
    rw [z3, z4] at h4
    simp only [Bool.and_eq_true, decide_eq_true_eq] at h4
    obtain ⟨⟨⟨⟨⟨hj, har⟩, hn1⟩, hii⟩, hvs⟩, hrn⟩ := h4
    obtain ⟨o1, o2, o3, o4, o5, o6, o7, o8⟩ := hv_own hj
    obtain ⟨ci, hci⟩ := Option.isSome_iff_exists.mp hvs
    rw [hci] at o1 ⊢
    obtain ⟨p1, p2, p3, p4⟩ := o1
    have hR : (hv_rm d j).frames + 1 ≤ R.frames ∧ 8 + (hv_nL j + 11) + (hv_rm d j).locals ≤ R.locals := ⟨hRf, by show 8 + (hv_nL j + 11) + 100 * d ≤ R.locals; omega⟩
    have hws : hv_ws j = Jvm.Cond.code (hv_y j) (hv_cc j) (hv_nL j) none :: hv_G := by unfold hv_ws; rw [hrn]
    rcases (Bool.or_eq_true _ _).mp hck with h1 | h1
    · obtain ⟨q, hq⟩ := hv_any4_mem h1
      have h2 := List.all_eq_true.mp hv_MI_ok _ hq
      exact hv_clI S hM hKx.warm hv_Kx.blind hb0 (cwI (n - 1) hts (hv_good (hv_wsG (hv_code hj))) hws rfl rfl (hts _ (inG o2 rfl)) (hts _ (hv_inG h2 rfl)) (hts _ (inG p1 rfl)) (o6.mp hii) ⟨o7, o8, har⟩ hR) (by omega) hd
    · obtain ⟨q, hq⟩ := hv_any4_mem h1
      have h2 := List.all_eq_true.mp hv_MIN_ok _ hq
      exact hv_clIN S hM hKx.warm hv_Kx.blind hb0 ⟨va_cnB (n - 1) hts (hv_good (hv_wsG (hv_code hj))) hws rfl rfl (hKx.2.1 _ (hv_inT_mem h2) rfl) (hts _ (inG o2 rfl)) ⟨o7, o8, har⟩ hR, o6.mp hii, hts _ (inG p1 rfl)⟩ (by omega) hd
  · cases hck
/-- a method whose callees keep to the meaning keeps to it -/
theorem hv_met {d : Nat} (IH : hv_Sim l D b sa sv cA (hv_sem d) d) (hstr : ∀ (j : Nat) (as : List Value) (h : hv_H) (r : hv_R), 305 ≤ j → hv_sem d j as h = some r → (j = 305 ∧ ∃ k, as = [.retAddr k] ∧ k < 11) ∨ (j = 306 ∧ ∃ k i, as = [.retAddr k, .int i] ∧ k < 11)) {j : Nat} (hj : j < 305) {as : List Value} {h h' : hv_H} {rv : Option Value} (hs : hv_sem (d + 1) j as h = some (rv, h')) : Met l (hv_y j) (hv_ws j) (hv_rm (d + 1) j) (hv_Pc D vwCl b sa cA (hv_Kx D b sa sv cA) as h) (hv_Qc D vwCl b sa cA rv h') (hv_cm j).1 (hv_cm j).2 (fun q => b ≤ q) := by
  obtain ⟨o1, o2, o3, o4, o5, o6, o7, o8⟩ := hv_own hj
  obtain ⟨BB, hB, hbo⟩ := hv_bok hj
  unfold hv_sem at hs
  rw [hB] at hs
  simp only at hs
  split at hs
  · rename_i hw
    unfold hv_fin at hs
    split at hs
    · rename_i r hr
      cases Option.some.inj hs
      refine va_MetF (cc := hv_cc j) (maxL := hv_nL j) (ret := hv_rt j) o3 rfl ?_
      intro p e s m args below meth c s₁ B hml hv
      obtain ⟨rfl, hP, hKx⟩ := hv
      have hx := B.exec
      have hb := B.bytes
      have hr0 := B.returns
      have hts := atoms_spec (ws := hv_ws j) B.pre
      have hown : s.vm.findClass (hv_on (hv_ow j)) = some m.cls := by
        rw [← o4]
        exact findClass_of_methodNamed B.named
      have hlocks := B.notSynchronized
      have hin : meth.name = (hv_y j).name := (name_of_methodNamed B.named B.method).1
      have hb0 : b ≤ s.heap.size := by rw [hP.1]; exact Nat.le_add_right _ _
      have X : hv_X p (headSpec (hv_ws j) (hv_rm (d + 1) j)).room s m (as.map (hv_cv b sa)).toArray meth c (hv_cc j) (hv_nL j) (hv_ow j) (hv_ii j) D b sa sv cA (hv_cm j).1 (hv_cm j).2 := ⟨⟨hx, hb, hml, hown⟩, fun w hw => hts w (List.mem_cons_of_mem _ hw), hKx, ⟨Nat.le_refl _, Nat.le_refl _, by show 1 ≤ d + 1; omega, by show 100 ≤ 100 * (d + 1); omega⟩, fun hi => by rw [hin]; exact o6.mp hi⟩
      obtain ⟨en, hI⟩ := hbo (hv_SW p l e (headSpec (hv_ws j) (hv_rm (d + 1) j)).room s m (as.map (hv_cv b sa)).toArray below meth c (MQ below (hv_Qc D vwCl b sa cA rv h') (as.map (hv_cv b sa)).toArray s (hv_cm j).1 (hv_cm j).2 (fun q => b ≤ q)) D vwCl b sa cA (hv_nL j)) (fun r => r = (rv, h')) _
        (hv_stepOK X ⟨hv_Qc D vwCl b sa cA rv h', fun q => b ≤ q, rfl, hr0, hlocks, fun q hq => hq, fun rv2 h2 H locs t hF hP2 hS ht hW => by
          cases hF
          refine ⟨rfl, by rw [ht]; exact hP2, by rw [ht]; exact hS.1, fun q hq => ?_⟩
          rw [ht]
          exact hS.2.1 q (Nat.lt_of_lt_of_le hq hb0) (Nat.not_le.mpr hq)⟩ (hv_xc IH hstr X hb0 (by show d + 1 ≤ d + 1; omega) (by show 100 * d + 100 ≤ 100 * (d + 1); omega)))
      have k1 := hI _ _ hr rfl s.heap [] _ (hv_entry (b := b) (sa := sa) hw) hP va_S.rf
      rw [lg_entry_eq]
      exact k1
    · cases hs
  · cases hs
end HVS
