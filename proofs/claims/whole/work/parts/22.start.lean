/-! What holds at the law's entry. -/
def hv_SI : List Nat := [84, 128, 126, 118, 146, 148, 86, 88, 108, 110, 68]
def hv_tm (i : Nat) : Term := .string "HardestVows$Reader" (hv_SI.getD i 0)
set_option maxRecDepth 100000 in
theorem hv_st1_ok : (List.range 11).all (fun i => decide (Jvm.Cond.exactly (hv_tm i) "java/lang/String" ∈ flatC (Jvm.Cond.and given_1 narrow_1)) && decide (Jvm.Cond.eq (.field (hv_tm i) "java/lang/String" "coder" "B") (.int 0) ∈ flatC (Jvm.Cond.and given_1 narrow_1)) && decide (Jvm.Cond.arrayOf (.field (hv_tm i) "java/lang/String" "value" "[B") .byte ∈ flatC (Jvm.Cond.and given_1 narrow_1)) && decide (Jvm.Cond.eq (.length (.field (hv_tm i) "java/lang/String" "value" "[B")) (.int (Int32.ofNat (hv_SL.getD i 0))) ∈ flatC (Jvm.Cond.and given_1 narrow_1))) = true := by decide +kernel
set_option maxRecDepth 100000 in
theorem hv_st2_ok : (List.range 11).all (fun i => (List.range (hv_SL.getD i 0)).all (fun j => decide (Jvm.Cond.eq (.elem (.field (hv_tm i) "java/lang/String" "value" "[B") (.int (Int32.ofNat j))) (.int ((hv_SB.getD i []).getD j 0)) ∈ flatC (Jvm.Cond.and given_1 narrow_1)))) = true := by decide +kernel
set_option maxRecDepth 100000 in
theorem hv_st3_ok : (List.range 11).all (fun i => (List.range 11).all (fun j => decide (i = j) || decide (Jvm.Cond.not (Jvm.Cond.eq (hv_tm i) (hv_tm j)) ∈ flatC (Jvm.Cond.and given_1 narrow_1)) || decide (Jvm.Cond.not (Jvm.Cond.eq (hv_tm j) (hv_tm i)) ∈ flatC (Jvm.Cond.and given_1 narrow_1)))) = true := by decide +kernel
set_option maxRecDepth 100000 in
theorem hv_st4_ok : hv_ST.all (fun x => decide (hv_on x.1 = "HardestVows$Reader") && decide (x.2.1 = hv_SI.getD x.2.2.1 0)) = true := by decide +kernel
set_option maxRecDepth 100000 in
theorem hv_st5 : Jvm.Cond.eq (Jvm.Term.static "java/lang/String" "COMPACT_STRINGS" "Z") (Jvm.Term.int 1) ∈ flatC (Jvm.Cond.and given_1 narrow_1) := by decide +kernel
set_option maxRecDepth 100000 in
theorem hv_st6 : Jvm.Cond.isRef (Jvm.Term.static "jdk/internal/util/Preconditions" "SIOOBE_FORMATTER" "Ljava/util/function/BiFunction;") ∈ flatC (Jvm.Cond.and given_1 narrow_1) := by decide +kernel
theorem hv_arrP {s : State} {args : Array Value} {ty : FieldType} (hp : ∀ C, ty ≠ .object C) (h : (Jvm.Cond.arrayClass ty).before args s = true) : ∃ k : ClassId, ArrOfT s k ty ∧ va_RA s k ty := by
  obtain ⟨k, kA, comp, h1, h2, h3⟩ := Cond.arrayClass_spec h
  refine ⟨k, fun n z => ⟨fun q h => (by cases h), kA, h2, comp, h3⟩, ?_⟩
  cases ty <;> first | exact h1 | exact absurd rfl (hp _)
theorem hv_arrO {s : State} {C : String} (h : va_AO C s) : ∃ k : ClassId, ArrOfT s k (.object C) ∧ va_RA s k (.object C) := by
  obtain ⟨comp, k, kA, h1, -, h2, h3, h4⟩ := Cond.arrayOver_spec (va_AO.use (A := #[]) h)
  exact ⟨k, fun n z => ⟨fun q h => (by cases h), kA, h2, comp, h3⟩, kA, comp, h2, h3, h1, h4⟩
theorem hv_eqi {args : Array Value} {s : State} {t : Term} {x : Int32} (h : (Jvm.Cond.eq t (.int x)).before args s = true) : t.eval args s none [] s = some (.int x) := by
  simp only [Jvm.Cond.before, Jvm.Cond.holds, Jvm.Cond.value, Jvm.Term.eval] at h
  cases ht : t.eval args s none [] s with
  | none => simp [ht] at h
  | some v =>
    rw [ht] at h
    cases v <;> simp at h
    rw [h]
theorem hv_know {s : State} {args : Array Value} (hts : ∀ w ∈ lw_tbl, w.before args s = true) (hgv : (Jvm.Cond.and given_1 narrow_1).before args s = true) (b0 : Nat) : ∃ (D : va_G) (sa sv : Nat → Nat) (cA : Nat → ClassId), hv_Kx D s.heap.size sa sv cA s ∧ sa 1000 = b0 := by
  have hs := flat_of_before _ hgv
  have hA : ∀ a : Nat, a < s.heap.size → ¬ (fun q => s.heap.size ≤ q) a := fun a h => Nat.not_le.mpr h
  -- classes
  have k1 : ∀ ci, ci < 12 → ∃ (cC : ClassId) (iS : Nat → Nat), u_Kn s (hv_on ci) (hv_T ci) (hv_N ci) cC iS := by
    intro ci hci
    have h8 := List.all_eq_true.mp hv_XI_ok ci (List.mem_range.mpr hci)
    simp only [Bool.and_eq_true] at h8
    exact u_known hts (fun w hw => (List.mem_filter.mp (hv_uw hci w hw)).1) (hts _ (hv_inT_mem h8.1))
  obtain ⟨dC, dI, hD⟩ : ∃ (dC : Nat → ClassId) (dI : Nat → Nat → Nat), ∀ ci, ci < 12 → u_Kn s (hv_on ci) (hv_T ci) (hv_N ci) (dC ci) (dI ci) := by
    have k2 : ∀ ci, ∃ (z : ClassId × (Nat → Nat)), ci < 12 → u_Kn s (hv_on ci) (hv_T ci) (hv_N ci) z.1 z.2 := by
      intro ci
      by_cases hci : ci < 12
      · obtain ⟨cC, iS, h⟩ := k1 ci hci
        exact ⟨(cC, iS), fun _ => h⟩
      · exact ⟨(0, fun _ => 0), fun h => absurd h hci⟩
    exact ⟨fun ci => (k2 ci).choose.1, fun ci => (k2 ci).choose.2, fun ci hci => (k2 ci).choose_spec hci⟩
  -- rows
  have a0 := hv_arrP (ty := .int) (fun C h => by cases h) (hts _ (hv_inT_mem (k := hv_aI) (by decide +kernel)))
  have a1 := hv_arrP (ty := .byte) (fun C h => by cases h) (hts _ (hv_inT_mem (k := hv_aB) (by decide +kernel)))
  have a2 := hv_arrP (ty := .boolean) (fun C h => by cases h) (hts _ (hv_inT_mem (k := hv_aZ) (by decide +kernel)))
  have a3 := hv_arrP (ty := .long) (fun C h => by cases h) (hts _ (hv_inT_mem (k := hv_aJ) (by decide +kernel)))
  have w4 : va_AO "HardestVows$Whole" s := va_AO.of (hts _ (hv_inT_mem (k := 213) (by decide +kernel)))
  have w5 : va_AO "HardestVows$Code" s := va_AO.of (hts _ (hv_inT_mem (k := 179) (by decide +kernel)))
  obtain ⟨c0, a0⟩ := a0
  obtain ⟨c1, a1⟩ := a1
  obtain ⟨c2, a2⟩ := a2
  obtain ⟨c3, a3⟩ := a3
  obtain ⟨c4, a4⟩ := hv_arrO w4
  obtain ⟨c5, a5⟩ := hv_arrO w5
  -- texts
  have t1 : ∀ i : Nat, i < 11 → _ := fun i hi => List.all_eq_true.mp hv_st1_ok i (List.mem_range.mpr hi)
  simp only [Bool.and_eq_true, decide_eq_true_eq] at t1
  obtain ⟨adK, sv, hSS, hev⟩ := vk_Sof (N := 11) (tm := hv_tm) (len := hv_SL) (byt := hv_SB) (A := fun q => s.heap.size ≤ q) (fun i hi => hv_SL_at hi) (fun i hi => hs _ (t1 i hi).1.1.1) (fun i hi => hs _ (t1 i hi).1.1.2) (fun i hi => hs _ (t1 i hi).1.2) (fun i hi => hs _ (t1 i hi).2)
    (fun i hi j hj => hs _ (of_decide_eq_true (List.all_eq_true.mp (List.all_eq_true.mp hv_st2_ok i (List.mem_range.mpr hi)) j (List.mem_range.mpr hj))))
    (fun i j hi hj hij => by
      have h9 := List.all_eq_true.mp (List.all_eq_true.mp hv_st3_ok i (List.mem_range.mpr hi)) j (List.mem_range.mpr hj)
      simp only [Bool.or_eq_true, decide_eq_true_eq] at h9
      rcases h9 with (h9 | h9) | h9
      · exact absurd h9 hij
      · exact Or.inl (hs _ h9)
      · exact Or.inr (hs _ h9)) hA
  refine ⟨(dC, dI), fun k => if k = 1000 then b0 else adK k, sv, fun t => if t = 0 then c0 else if t = 1 then c1 else if t = 2 then c2 else if t = 3 then c3 else if t = 4 then c4 else c5, ⟨⟨fun ci q hq => ?_, fun k q hk => ?_⟩, fun w hw hn => ?_, w4, w5, fun x hx => ?_, ⟨fun i hi => ?_, fun i j hi hj hij => ?_⟩, ?_, ?_⟩, if_pos rfl⟩
  · have hl : ci < 12 := (List.getElem?_eq_some_iff.mp hq).1
    cases Option.some.inj ((hv_cl hl).symm.trans hq)
    exact hD ci hl
  · match k, hk with
    | 0, hk => cases Option.some.inj hk; exact a0
    | 1, hk => cases Option.some.inj hk; exact a1
    | 2, hk => cases Option.some.inj hk; exact a2
    | 3, hk => cases Option.some.inj hk; exact a3
    | 4, hk => cases Option.some.inj hk; exact a4
    | 5, hk => cases Option.some.inj hk; exact a5
    | k + 6, hk => simp [hv_tys] at hk
  · have h9 := hts w hw
    cases w <;> first | (cases hn; done) | exact va_Nw.of rfl h9
  · have h9 := List.all_eq_true.mp hv_ST_ok x hx
    have h8 := List.all_eq_true.mp hv_st4_ok x hx
    simp only [Bool.and_eq_true, decide_eq_true_eq] at h9 h8
    have hk : ¬ x.2.2.1 = 1000 := by omega
    have h7 := hts _ (hv_inT_mem h9.1)
    show vk_R (hv_on x.1) x.2.1 (hv_STR.getD x.2.2.1 "") (if x.2.2.1 = 1000 then b0 else adK x.2.2.1) s
    rw [if_neg hk]
    refine vk_R.of (A := args) h7 ?_
    have h6 := hev x.2.2.1 h9.2
    rw [h8.1, h8.2]
    exact h6
  · have h9 := hSS.1 i hi
    have hk : ¬ i = 1000 := by omega
    simp only [if_neg hk]
    exact h9
  · have h1 : ¬ i = 1000 := by omega
    have h2 : ¬ j = 1000 := by omega
    simp only [if_neg h1, if_neg h2] at hij
    exact hSS.2 i j hi hj hij
  · refine va_Zof (args := args) (hts _ (hv_inT_mem (k := 719) (by decide +kernel))) (hts _ (hv_inT_mem (k := qIS) (by decide +kernel))) ?_ hA
    exact hv_eqi (hs _ hv_st5)
  · exact va_Zqof (args := args) (hts _ (hv_inT_mem (k := 735) (by decide +kernel))) (hts _ (hv_inT_mem (k := qIP) (by decide +kernel))) (hs _ hv_st6) hA
/-- the law's whole run, if its meaning is that it answers 1 -/
def hv_PURE : Prop := ∀ (L : Nat) (xs : Nat → Int32), L ≤ 3072 → ∃ h : hv_H, hb_law (hv_stepL L xs (hv_sem 60)) (hv_in 4 [.retAddr 1000], [], [], 0, 0) = some (.inr (some (.int 1), h))
theorem whole_start_open (hpure : hv_PURE) {p : Program} {e : Env} {s : State} {m : MethodId} {below : List Frame} {meth : Method} {c : Code} (l : Launch) {b L : Nat} {xs : Nat → Int32} (hL : L ≤ 3072) (C0 : lw_At p s m meth c b L xs) : W p l e room_1 s m #[Value.ref b] below meth c s.heap [] 0 0 (lw_Z below #[Value.ref b] s) (entryFrame m ([Value.ref b] : List Value).toArray 4) := by
  obtain ⟨hx, hb, hr, hml, hown, hts, hX, hbl, hlocks, hgv⟩ := C0
  obtain ⟨D, sa, sv, cA, hKx, hsa⟩ := hv_know hts hgv b
  have X : hv_X p room_1 s m #[Value.ref b] meth c code 4 15 false D s.heap.size sa sv cA 600000 7302250 := ⟨⟨hx, hb, hml, hown⟩, fun w hw => hts w (List.mem_filter.mp hw).1, hKx, ⟨Nat.le_refl _, Nat.le_refl _, by decide, by decide⟩, fun h => by cases h⟩
  obtain ⟨h, hrun⟩ := hpure L xs hL
  have hP : hv_P D vwCl s.heap.size sa cA [] s.heap := ⟨rfl, fun k x hk => by simp at hk⟩
  have k1 := hbk_law (hv_stepLOK (l := l) (e := e) (below := below) X (hv_xc (l := l) (e := e) (below := below) (hv_sim l D s.heap.size sa sv cA 60) (hv_sem_str 60) X (Nat.le_refl _) (by decide) (by decide)) hX hbl hsa hr hlocks) _ _ hrun rfl s.heap [] _ (hv_entry (b := s.heap.size) (sa := sa) (as := [.retAddr 1000]) (n := 4) (by decide)) hP va_S.rf
  rw [lg_entry_eq]
  have e9 : hv_cv s.heap.size sa (.retAddr 1000) = .ref b := congrArg Value.ref hsa
  rw [List.map_cons, List.map_nil, e9] at k1
  exact k1
