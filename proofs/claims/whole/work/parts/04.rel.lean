/-! The abstract state and the machine's: cell k lies at b + k; text constant k lies at sa k; array kind t has the array class cA t. -/
def hv_cv (b : Nat) (sa : Nat → Nat) : Value → Value
  | .ref k => .ref (b + k)
  | .retAddr k => .ref (sa k)
  | v => v
def hv_ca (b : Nat) (a : vp_A) : vp_A := match a with
  | (n, .inr (.inr (.inr (.inr f)))) => (n, .inr (.inr (.inr (.inr (fun j => (f j).map (b + ·))))))
  | a => a
def hv_ce (b : Nat) (sa : Nat → Nat) (cA : Nat → ClassId) (x : va_E) : va_E := match x with
  | .inl (t, a) => .inl (cA t, hv_ca b a)
  | .inr (ci, fs) => .inr (ci, fs.map (hv_cv b sa))
def hv_P (D : va_G) (cl : List vw_C) (b : Nat) (sa : Nat → Nat) (cA : Nat → ClassId) (h : hv_H) (H : Heap) : Prop := H.size = b + h.length ∧ ∀ (k : Nat) (x : va_E), h[k]? = some x → va_at D cl (b + k, hv_ce b sa cA x) H
def hv_Lr (b : Nat) (sa : Nat → Nat) (la : Array Slot) (nL : Nat) (ls : hv_L) : Prop := ls.length = nL ∧ la.size = nL ∧ lv_wf la ∧ ∀ (i : Nat) (v : Value), ls[i]? = some (some v) → la[i]? = some (.val (hv_cv b sa v))
def hv_tys (cA : Nat → ClassId) : List (ClassId × FieldType) := [(cA 0, .int), (cA 1, .byte), (cA 2, .boolean), (cA 3, .long), (cA 4, .object "HardestVows$Whole"), (cA 5, .object "HardestVows$Code")]
def hv_Sf (D : va_G) (cl : List vw_C) (b : Nat) (sa : Nat → Nat) (cA : Nat → ClassId) (nL : Nat) (m : MethodId) (H0 : Heap) (G : Heap → List Loc → Nat → Nat → JFrame → Prop) (pc : Nat) (σ : hv_S) : Prop :=
  ∀ (H : Heap) (locs : List Loc) (la : Array Slot), hv_Lr b sa la nL σ.1 → hv_P D cl b sa cA σ.2.2.1 H → va_S (fun q => b ≤ q) H0 H locs → G H locs σ.2.2.2.1 σ.2.2.2.2 (F0 m pc la (σ.2.1.map (hv_cv b sa)))
theorem hv_cv_cat (b : Nat) (sa : Nat → Nat) (v : Value) : (hv_cv b sa v).category = v.category := by cases v <;> rfl
theorem hv_w_eq (b : Nat) (sa : Nat → Nat) : ∀ (st : List Value), ((st.map (hv_cv b sa)).map fun v => v.category).sum = hv_w st
  | [] => rfl
  | v :: st => by
    simp only [List.map_cons, List.sum_cons, hv_w, hv_cv_cat]
    rw [← hv_w_eq b sa st]
/-- what is known of the slots, as the kit's list -/
def hv_kn (b : Nat) (sa : Nat → Nat) (ls : hv_L) : List (Nat × Value) := (List.range ls.length).filterMap (fun i => match ls[i]? with
  | some (some v) => some (i, hv_cv b sa v)
  | _ => none)
theorem hv_kn_mem {b : Nat} {sa : Nat → Nat} {ls : hv_L} {q : Nat × Value} : q ∈ hv_kn b sa ls ↔ ∃ v, ls[q.1]? = some (some v) ∧ q.2 = hv_cv b sa v := by
  unfold hv_kn
  rw [List.mem_filterMap]
  constructor
  · rintro ⟨i, -, h⟩
    split at h
    · rename_i v e
      cases Option.some.inj h
      exact ⟨v, e, rfl⟩
    · cases h
  · rintro ⟨v, h1, h2⟩
    refine ⟨q.1, List.mem_range.mpr (List.getElem?_eq_some_iff.mp h1).1, ?_⟩
    rw [h1]
    exact congrArg some (Prod.ext rfl h2.symm)
theorem hv_Lr.has {b : Nat} {sa : Nat → Nat} {la : Array Slot} {nL : Nat} {ls : hv_L} (h : hv_Lr b sa la nL ls) : lv_has la nL (hv_kn b sa ls) := by
  refine ⟨h.2.1, h.2.2.1, fun q hq => ?_⟩
  obtain ⟨v, h1, h2⟩ := hv_kn_mem.mp hq
  rw [h2]
  exact h.2.2.2 _ _ h1
theorem hv_k1_get {ls : hv_L} {i j : Nat} {w : Value} (h : (hv_k1 ls i)[j]? = some (some w)) : ls[j]? = some (some w) ∧ ¬ (j + 1 = i ∧ w.category = 2) := by
  cases i with
  | zero => exact ⟨h, fun q => by omega⟩
  | succ i =>
    simp only [hv_k1] at h
    have key : ∀ (x : Option Value), (ls.set i none)[j]? = some (some w) → ls[j]? = some (some w) ∧ ¬ (j + 1 = i + 1 ∧ w.category = 2) := by
      intro _ h
      by_cases hj : j = i
      · subst hj
        rw [List.getElem?_set] at h
        simp at h
      · rw [List.getElem?_set_ne (Ne.symm hj)] at h
        exact ⟨h, fun q => hj (by omega)⟩
    split at h
    · exact key none h
    · exact key none h
    · rename_i n1 n2
      refine ⟨h, fun q => ?_⟩
      obtain ⟨q1, q2⟩ := q
      have : j = i := by omega
      subst this
      cases w <;> simp [Value.category] at q2
      · exact n1 _ h
      · exact n2 _ h
theorem hv_k1_len (ls : hv_L) (i : Nat) : (hv_k1 ls i).length = ls.length := by
  cases i with
  | zero => rfl
  | succ i =>
    simp only [hv_k1]
    split <;> simp
theorem hv_Lr.st1 {b : Nat} {sa : Nat → Nat} {la la' : Array Slot} {nL : Nat} {ls : hv_L} {i : Nat} {v : Value} (h : hv_Lr b sa la nL ls) (hi : i < ls.length)
    (h' : lv_has la' nL ((i, hv_cv b sa v) :: (hv_kn b sa ls).filter (fun q => !(q.1 == i) && !(q.1 + 1 == i && q.2.category == 2)))) : hv_Lr b sa la' nL (hv_st1 ls i v) := by
  refine ⟨by unfold hv_st1; rw [List.length_set, hv_k1_len]; exact h.1, h'.1, h'.2.1, fun j w hj => ?_⟩
  unfold hv_st1 at hj
  by_cases hji : j = i
  · subst hji
    rw [List.getElem?_set_self (by rw [hv_k1_len]; exact hi)] at hj
    cases Option.some.inj (Option.some.inj hj)
    exact h'.2.2 _ List.mem_cons_self
  · rw [List.getElem?_set_ne (Ne.symm hji)] at hj
    obtain ⟨h1, h2⟩ := hv_k1_get hj
    refine h'.2.2 (j, hv_cv b sa w) (List.mem_cons_of_mem _ (List.mem_filter.mpr ⟨hv_kn_mem.mpr ⟨w, h1, rfl⟩, ?_⟩))
    simp only [Bool.and_eq_true, Bool.not_eq_true', beq_eq_false_iff_ne, ne_eq, Bool.and_eq_false_iff, hv_cv_cat]
    refine ⟨hji, ?_⟩
    by_cases hc : j + 1 = i
    · exact Or.inr (fun q => h2 ⟨hc, q⟩)
    · exact Or.inl hc
theorem hv_Lr.st2 {b : Nat} {sa : Nat → Nat} {la la' : Array Slot} {nL : Nat} {ls : hv_L} {i : Nat} {v : Value} (h : hv_Lr b sa la nL ls) (hi : i + 1 < ls.length)
    (h' : lv_has la' nL ((i, hv_cv b sa v) :: (hv_kn b sa ls).filter (fun q => !(q.1 == i) && (!(q.1 == i + 1) && !(q.1 + 1 == i && q.2.category == 2))))) : hv_Lr b sa la' nL (hv_st2 ls i v) := by
  refine ⟨by unfold hv_st2; rw [List.length_set, List.length_set, hv_k1_len]; exact h.1, h'.1, h'.2.1, fun j w hj => ?_⟩
  unfold hv_st2 at hj
  by_cases hj1 : j = i + 1
  · subst hj1
    rw [List.getElem?_set] at hj
    simp at hj
  · rw [List.getElem?_set_ne (Ne.symm hj1)] at hj
    by_cases hji : j = i
    · subst hji
      rw [List.getElem?_set_self (by rw [hv_k1_len]; omega)] at hj
      cases Option.some.inj (Option.some.inj hj)
      exact h'.2.2 _ List.mem_cons_self
    · rw [List.getElem?_set_ne (Ne.symm hji)] at hj
      obtain ⟨h1, h2⟩ := hv_k1_get hj
      refine h'.2.2 (j, hv_cv b sa w) (List.mem_cons_of_mem _ (List.mem_filter.mpr ⟨hv_kn_mem.mpr ⟨w, h1, rfl⟩, ?_⟩))
      simp only [Bool.and_eq_true, Bool.not_eq_true', beq_eq_false_iff_ne, ne_eq, Bool.and_eq_false_iff, hv_cv_cat]
      refine ⟨hji, hj1, ?_⟩
      by_cases hc : j + 1 = i
      · exact Or.inr (fun q => h2 ⟨hc, q⟩)
      · exact Or.inl hc
/-- a cell is changed -/
theorem hv_P.set {D : va_G} {cl : List vw_C} {b : Nat} {sa : Nat → Nat} {cA : Nat → ClassId} {h : hv_H} {H H1 : Heap} {k : Nat} {x0 x : va_E} (hP : hv_P D cl b sa cA h H) (hk : h[k]? = some x0) (hz : H1.size = H.size) (he : va_at D cl (b + k, hv_ce b sa cA x) H1) (oq : ∀ q : Nat, q ≠ b + k → H1[q]? = H[q]?) : hv_P D cl b sa cA (h.set k x) H1 := by
  have hl := (List.getElem?_eq_some_iff.mp hk).1
  refine ⟨by rw [hz, List.length_set]; exact hP.1, fun j y hj => ?_⟩
  by_cases hjk : j = k
  · subst hjk
    rw [List.getElem?_set_self hl] at hj
    cases Option.some.inj hj
    exact he
  · rw [List.getElem?_set_ne (Ne.symm hjk)] at hj
    exact (hP.2 j y hj).kept (oq (b + j) (fun q => hjk (by omega)))
/-- a cell comes -/
theorem hv_P.push {D : va_G} {cl : List vw_C} {b : Nat} {sa : Nat → Nat} {cA : Nat → ClassId} {h : hv_H} {H H1 : Heap} {x : va_E} (hP : hv_P D cl b sa cA h H) (hz : H1.size = H.size + 1) (he : va_at D cl (b + h.length, hv_ce b sa cA x) H1) (oq : ∀ q : Nat, q < H.size → H1[q]? = H[q]?) : hv_P D cl b sa cA (h ++ [x]) H1 := by
  refine ⟨by rw [hz, hP.1, List.length_append]; rfl, fun j y hj => ?_⟩
  by_cases hl : j < h.length
  · rw [List.getElem?_append_left hl] at hj
    exact (hP.2 j y hj).kept (oq (b + j) (by rw [hP.1]; omega))
  · rw [List.getElem?_append_right (by omega)] at hj
    have hz2 : j - h.length < 1 := (List.getElem?_eq_some_iff.mp hj).1
    have hj2 : j = h.length := by omega
    subst hj2
    rw [Nat.sub_self] at hj
    cases Option.some.inj hj
    exact he
theorem hv_S_put {b : Nat} {H0 H H1 : Heap} {locs : List Loc} {a : Nat} {i : Nat} (hS : va_S (fun q => b ≤ q) H0 H locs) (hz : H1.size = H.size) (oq : ∀ q : Nat, q ≠ b + a → H1[q]? = H[q]?) : va_S (fun q => b ≤ q) H0 H1 (locs ++ [⟨b + a, i⟩]) := by
  refine ⟨by rw [hz]; exact hS.1, fun q h1 h2 => ?_, fun q hq => ?_⟩
  · rw [oq q (fun z => h2 (by omega))]
    exact hS.2.1 q h1 h2
  · rcases List.mem_append.mp hq with h | h
    · exact hS.2.2 q h
    · cases List.mem_singleton.mp h
      exact Nat.le_add_right b a
theorem hv_S_new {b : Nat} {H0 H H1 : Heap} {locs : List Loc} (hS : va_S (fun q => b ≤ q) H0 H locs) (hz : H1.size = H.size + 1) (oq : ∀ q : Nat, q < H.size → H1[q]? = H[q]?) : va_S (fun q => b ≤ q) H0 H1 locs :=
  ⟨Nat.le_trans hS.1 (by omega), fun q h1 h2 => (oq q (Nat.lt_of_lt_of_le h1 hS.1)).trans (hS.2.1 q h1 h2), hS.2.2⟩
