/-! What a call answers is a number. -/
def okB (i : Instr) : Bool := match i with
  | .aaload => true
  | .aastore => true
  | .aload _ => true
  | .astore _ => true
  | .bipush _ => true
  | .dup => true
  | .getfield _ => true
  | .goto _ => true
  | .iadd => true
  | .iaload => true
  | .iconst _ => true
  | .ifCond _ _ => true
  | .if_icmp _ _ => true
  | .ifnonnull _ => true
  | .iinc _ _ => true
  | .iload _ => true
  | .imul => true
  | .invokeinterface _ _ => true
  | .istore _ => true
  | .isub => true
  | .new _ => true
  | .putfield _ => true
  | .tableswitch _ _ _ _ => true
  | _ => false
def okIr (i : Instr) : Bool := match i with
  | .ireturn => true
  | i => okB i
def okJr (i : Instr) : Bool := match i with
  | .lreturn => true
  | i => okB i
def RI (m : hv_M) : Prop := ∀ σ r, m σ = some (.inr r) → ∃ x, r.1 = some (.int x)
def RJ (m : hv_M) : Prop := ∀ σ r, m σ = some (.inr r) → ∃ x, r.1 = some (.long x)
section RT
variable {cm : Nat → Nat × Nat} {vk : Nat → Option Nat} {dv : Nat → List Value} {ft : Nat → Nat → FieldType} {mc ms : Nat} {rt : Option FieldType} {call : hv_F} {a b : hv_M} {σ : hv_S} {r : hv_R} {i : Instr} {is : List Instr}
set_option maxHeartbeats 2000000 in
theorem okB_no (hok : okB i = true) (h : hv_step cm vk dv ft mc ms rt call i σ = some (.inr r)) : False := by
  obtain ⟨ls, st, hh, nc, ns⟩ := σ
  cases i
  case aaload =>
    simp only [st_aaload, hv_nx] at h
    repeat' split at h
    all_goals (cases h)
  case aastore =>
    simp only [st_aastore, hv_nx] at h
    repeat' split at h
    all_goals (cases h)
  case aload =>
    simp only [st_aload, hv_nx] at h
    repeat' split at h
    all_goals (cases h)
  case astore =>
    simp only [st_astore, hv_nx] at h
    repeat' split at h
    all_goals (cases h)
  case bipush =>
    simp only [st_bipush, hv_nx] at h
    repeat' split at h
    all_goals (cases h)
  case dup =>
    simp only [st_dup, hv_nx] at h
    repeat' split at h
    all_goals (cases h)
  case getfield =>
    simp only [st_getfield, hv_nx] at h
    repeat' split at h
    all_goals (cases h)
  case goto =>
    simp only [st_goto, hv_nx] at h
    repeat' split at h
    all_goals (cases h)
  case iadd =>
    simp only [st_iadd, hv_nx] at h
    repeat' split at h
    all_goals (cases h)
  case iaload =>
    simp only [st_iaload, hv_nx] at h
    repeat' split at h
    all_goals (cases h)
  case iconst =>
    simp only [st_iconst, hv_nx] at h
    repeat' split at h
    all_goals (cases h)
  case ifCond =>
    simp only [st_ifCond, hv_nx] at h
    repeat' split at h
    all_goals (cases h)
  case if_icmp =>
    simp only [st_if_icmp, hv_nx] at h
    repeat' split at h
    all_goals (cases h)
  case ifnonnull =>
    simp only [st_ifnonnull, hv_nx] at h
    repeat' split at h
    all_goals (cases h)
  case iinc =>
    simp only [st_iinc, hv_nx] at h
    repeat' split at h
    all_goals (cases h)
  case iload =>
    simp only [st_iload, hv_nx] at h
    repeat' split at h
    all_goals (cases h)
  case imul =>
    simp only [st_imul, hv_nx] at h
    repeat' split at h
    all_goals (cases h)
  case invokeinterface =>
    simp only [st_invokeinterface, hv_nx] at h
    repeat' split at h
    all_goals (cases h)
  case istore =>
    simp only [st_istore, hv_nx] at h
    repeat' split at h
    all_goals (cases h)
  case isub =>
    simp only [st_isub, hv_nx] at h
    repeat' split at h
    all_goals (cases h)
  case new =>
    simp only [st_new, hv_nx] at h
    repeat' split at h
    all_goals (cases h)
  case putfield =>
    simp only [st_putfield, hv_nx] at h
    repeat' split at h
    all_goals (cases h)
  case tableswitch =>
    simp only [st_tableswitch, hv_nx] at h
    repeat' split at h
    all_goals (cases h)
  all_goals (cases hok)
theorem RI_seq (h1 : RI a) (h2 : RI b) : RI (hv_seq a b) := by
  intro σ r h
  rw [k_seq] at h
  cases ha : a σ with
  | none =>
    rw [ha] at h
    cases h
  | some z =>
    rw [ha] at h
    cases z with
    | inr q =>
      cases h
      exact h1 σ _ ha
    | inl q =>
      obtain ⟨k, τ⟩ := q
      cases k with
      | zero => exact h2 τ r h
      | succ k => cases h
theorem RI_blk (h1 : RI a) : RI (hv_blk a) := by
  intro σ r h
  rw [k_blk] at h
  cases ha : a σ with
  | none =>
    rw [ha] at h
    cases h
  | some z =>
    rw [ha] at h
    cases z with
    | inr q =>
      cases h
      exact h1 σ _ ha
    | inl q =>
      obtain ⟨k, τ⟩ := q
      cases k with
      | zero => cases h
      | succ k => cases h
theorem RI_lp (h1 : RI a) : RI (hv_lp a) := by
  intro σ r h
  obtain ⟨n, hn⟩ := hv_lp_ex h
  clear h
  induction n generalizing σ with
  | zero => cases hn
  | succ n ih =>
    rw [hv_lpn] at hn
    cases ha : a σ with
    | none =>
      rw [ha] at hn
      cases hn
    | some z =>
      rw [ha] at hn
      cases z with
      | inr q =>
        cases hn
        exact h1 σ _ ha
      | inl q =>
        obtain ⟨k, τ⟩ := q
        match k, hn with
        | 0, hn => cases hn
        | 1, hn => exact ih τ hn
        | k + 2, hn => cases hn
theorem RI_one (hok : okIr i = true) : RI (hv_step cm vk dv ft mc ms rt call i) := by
  intro σ r h
  by_cases q : i = .ireturn
  · subst q
    obtain ⟨ls, st, hh, nc, ns⟩ := σ
    simp only [st_ireturn] at h
    repeat' split at h
    all_goals first | (cases h; done) | (cases h; exact ⟨_, rfl⟩)
  · have hb : okB i = true := by
      cases i <;> first | exact hok | exact absurd rfl q
    exact (okB_no hb h).elim
theorem RI_run (hok : is.all okIr = true) : RI (hv_run (hv_step cm vk dv ft mc ms rt call) is) := by
  induction is with
  | nil =>
    intro σ r h
    cases h
  | cons i is ih =>
    rw [List.all_cons, Bool.and_eq_true] at hok
    exact RI_seq (RI_one hok.1) (ih hok.2)
theorem RJ_seq (h1 : RJ a) (h2 : RJ b) : RJ (hv_seq a b) := by
  intro σ r h
  rw [k_seq] at h
  cases ha : a σ with
  | none =>
    rw [ha] at h
    cases h
  | some z =>
    rw [ha] at h
    cases z with
    | inr q =>
      cases h
      exact h1 σ _ ha
    | inl q =>
      obtain ⟨k, τ⟩ := q
      cases k with
      | zero => exact h2 τ r h
      | succ k => cases h
theorem RJ_blk (h1 : RJ a) : RJ (hv_blk a) := by
  intro σ r h
  rw [k_blk] at h
  cases ha : a σ with
  | none =>
    rw [ha] at h
    cases h
  | some z =>
    rw [ha] at h
    cases z with
    | inr q =>
      cases h
      exact h1 σ _ ha
    | inl q =>
      obtain ⟨k, τ⟩ := q
      cases k with
      | zero => cases h
      | succ k => cases h
theorem RJ_lp (h1 : RJ a) : RJ (hv_lp a) := by
  intro σ r h
  obtain ⟨n, hn⟩ := hv_lp_ex h
  clear h
  induction n generalizing σ with
  | zero => cases hn
  | succ n ih =>
    rw [hv_lpn] at hn
    cases ha : a σ with
    | none =>
      rw [ha] at hn
      cases hn
    | some z =>
      rw [ha] at hn
      cases z with
      | inr q =>
        cases hn
        exact h1 σ _ ha
      | inl q =>
        obtain ⟨k, τ⟩ := q
        match k, hn with
        | 0, hn => cases hn
        | 1, hn => exact ih τ hn
        | k + 2, hn => cases hn
theorem RJ_one (hok : okJr i = true) : RJ (hv_step cm vk dv ft mc ms rt call i) := by
  intro σ r h
  by_cases q : i = .lreturn
  · subst q
    obtain ⟨ls, st, hh, nc, ns⟩ := σ
    simp only [st_lreturn] at h
    repeat' split at h
    all_goals first | (cases h; done) | (cases h; exact ⟨_, rfl⟩)
  · have hb : okB i = true := by
      cases i <;> first | exact hok | exact absurd rfl q
    exact (okB_no hb h).elim
theorem RJ_run (hok : is.all okJr = true) : RJ (hv_run (hv_step cm vk dv ft mc ms rt call) is) := by
  induction is with
  | nil =>
    intro σ r h
    cases h
  | cons i is ih =>
    rw [List.all_cons, Bool.and_eq_true] at hok
    exact RJ_seq (RJ_one hok.1) (ih hok.2)
theorem RI_fin {m : hv_M} {v : Value} {h' : hv_H} (hm : RI m) (h : hv_fin (m σ) = some (some v, h')) : ∃ x, v = .int x := by
  cases hs : m σ with
  | none =>
    rw [hs] at h
    cases h
  | some z =>
    rw [hs] at h
    cases z with
    | inl q => cases h
    | inr q =>
      cases h
      obtain ⟨x, e⟩ := hm σ _ hs
      cases e
      exact ⟨x, rfl⟩
theorem RJ_fin {m : hv_M} {v : Value} {h' : hv_H} (hm : RJ m) (h : hv_fin (m σ) = some (some v, h')) : ∃ x, v = .long x := by
  cases hs : m σ with
  | none =>
    rw [hs] at h
    cases h
  | some z =>
    rw [hs] at h
    cases z with
    | inl q => cases h
    | inr q =>
      cases h
      obtain ⟨x, e⟩ := hm σ _ hs
      cases e
      exact ⟨x, rfl⟩
theorem RI_sem {m : hv_M} {v : Value} {h' : hv_H} {p : Prop} {dec : Decidable p} {x : Option hv_R} (e : x = if p then hv_fin (m σ) else none) (hm : RI m) (h : x = some (some v, h')) : ∃ y, v = .int y := by
  rw [e] at h
  split at h
  · exact RI_fin hm h
  · cases h
theorem RJ_sem {m : hv_M} {v : Value} {h' : hv_H} {p : Prop} {dec : Decidable p} {x : Option hv_R} (e : x = if p then hv_fin (m σ) else none) (hm : RJ m) (h : x = some (some v, h')) : ∃ y, v = .long y := by
  rw [e] at h
  split at h
  · exact RJ_fin hm h
  · cases h
theorem l_hl_V_monk_0 : RI (hl_V_monk_0 (hv_step cm vk dv ft mc ms rt call)) := (RI_seq (RI_run (by decide)) (RI_blk (RI_run (by decide))))
theorem ri_monk {d : Nat} {as : List Value} {v : Value} {h h' : hv_H} (e : hv_sem (d + 1) 1 as h = some (some v, h')) : ∃ x, v = .int x := RI_sem (sem_V_monk d as h) (RI_seq (RI_run (by decide)) (RI_seq (RI_blk (RI_run (by decide))) (RI_seq (RI_run (by decide)) (RI_seq (RI_blk (RI_run (by decide))) (RI_seq (RI_run (by decide)) (RI_seq (RI_lp (l_hl_V_monk_0)) (RI_run (by decide)))))))) e
theorem ri_put {d : Nat} {as : List Value} {v : Value} {h h' : hv_H} (e : hv_sem (d + 1) 2 as h = some (some v, h')) : ∃ x, v = .int x := RI_sem (sem_V_put d as h) (RI_seq (RI_run (by decide)) (RI_seq (RI_blk (RI_seq (RI_blk (RI_run (by decide))) (RI_run (by decide)))) (RI_seq (RI_run (by decide)) (RI_seq (RI_blk (RI_run (by decide))) (RI_run (by decide)))))) e
theorem ri_of {d : Nat} {as : List Value} {v : Value} {h h' : hv_H} (e : hv_sem (d + 1) 3 as h = some (some v, h')) : ∃ x, v = .int x := RI_sem (sem_V_of d as h) (RI_seq (RI_run (by decide)) (RI_seq (RI_blk (RI_seq (RI_blk (RI_run (by decide))) (RI_run (by decide)))) (RI_seq (RI_run (by decide)) (RI_seq (RI_blk (RI_seq (RI_blk (RI_seq (RI_blk (RI_seq (RI_blk (RI_seq (RI_blk (RI_seq (RI_blk (RI_seq (RI_blk (RI_seq (RI_blk (RI_run (by decide))) (RI_run (by decide)))) (RI_run (by decide)))) (RI_run (by decide)))) (RI_run (by decide)))) (RI_seq (RI_run (by decide)) (RI_seq (RI_blk (RI_seq (RI_blk (RI_run (by decide))) (RI_run (by decide)))) (RI_run (by decide)))))) (RI_run (by decide)))) (RI_run (by decide)))) (RI_run (by decide)))))) e
theorem ri_has {d : Nat} {as : List Value} {v : Value} {h h' : hv_H} (e : hv_sem (d + 1) 4 as h = some (some v, h')) : ∃ x, v = .int x := RI_sem (sem_V_has d as h) (RI_seq (RI_run (by decide)) (RI_seq (RI_blk (RI_seq (RI_blk (RI_run (by decide))) (RI_run (by decide)))) (RI_run (by decide)))) e
theorem ri_terms {d : Nat} {as : List Value} {v : Value} {h h' : hv_H} (e : hv_sem (d + 1) 5 as h = some (some v, h')) : ∃ x, v = .int x := RI_sem (sem_V_terms d as h) (RI_seq (RI_run (by decide)) (RI_seq (RI_blk (RI_seq (RI_blk (RI_run (by decide))) (RI_run (by decide)))) (RI_seq (RI_run (by decide)) (RI_seq (RI_blk (RI_seq (RI_blk (RI_run (by decide))) (RI_run (by decide)))) (RI_seq (RI_run (by decide)) (RI_seq (RI_blk (RI_run (by decide))) (RI_seq (RI_run (by decide)) (RI_seq (RI_blk (RI_seq (RI_blk (RI_run (by decide))) (RI_run (by decide)))) (RI_seq (RI_run (by decide)) (RI_seq (RI_blk (RI_seq (RI_blk (RI_run (by decide))) (RI_run (by decide)))) (RI_run (by decide)))))))))))) e
theorem ri_feed {d : Nat} {as : List Value} {v : Value} {h h' : hv_H} (e : hv_sem (d + 1) 6 as h = some (some v, h')) : ∃ x, v = .int x := RI_sem (sem_V_feed d as h) (RI_seq (RI_run (by decide)) (RI_seq (RI_blk (RI_run (by decide))) (RI_run (by decide)))) e
theorem ri_end {d : Nat} {as : List Value} {v : Value} {h h' : hv_H} (e : hv_sem (d + 1) 8 as h = some (some v, h')) : ∃ x, v = .int x := RI_sem (sem_V_end d as h) (RI_seq (RI_run (by decide)) (RI_seq (RI_blk (RI_seq (RI_blk (RI_run (by decide))) (RI_run (by decide)))) (RI_run (by decide)))) e
theorem l_hl_V_row_0 : RI (hl_V_row_0 (hv_step cm vk dv ft mc ms rt call)) := (RI_seq (RI_run (by decide)) (RI_blk (RI_seq (RI_run (by decide)) (RI_seq (RI_blk (RI_seq (RI_blk (RI_run (by decide))) (RI_run (by decide)))) (RI_run (by decide))))))
theorem ri_row {d : Nat} {as : List Value} {v : Value} {h h' : hv_H} (e : hv_sem (d + 1) 9 as h = some (some v, h')) : ∃ x, v = .int x := RI_sem (sem_V_row d as h) (RI_seq (RI_run (by decide)) (RI_seq (RI_blk (RI_run (by decide))) (RI_seq (RI_run (by decide)) (RI_seq (RI_lp (l_hl_V_row_0)) (RI_run (by decide)))))) e
theorem ri_crumbs {d : Nat} {as : List Value} {v : Value} {h h' : hv_H} (e : hv_sem (d + 1) 12 as h = some (some v, h')) : ∃ x, v = .int x := RI_sem (sem_V_crumbs d as h) (RI_run (by decide)) e
theorem ri_law {d : Nat} {as : List Value} {v : Value} {h h' : hv_H} (e : hv_sem (d + 1) 13 as h = some (some v, h')) : ∃ x, v = .int x := RI_sem (sem_V_law d as h) (RI_seq (RI_run (by decide)) (RI_seq (RI_blk (RI_run (by decide))) (RI_seq (RI_run (by decide)) (RI_seq (RI_blk (RI_run (by decide))) (RI_run (by decide)))))) e
theorem ri_orders {d : Nat} {as : List Value} {v : Value} {h h' : hv_H} (e : hv_sem (d + 1) 14 as h = some (some v, h')) : ∃ x, v = .int x := RI_sem (sem_V_orders d as h) (RI_seq (RI_run (by decide)) (RI_seq (RI_blk (RI_run (by decide))) (RI_run (by decide)))) e
theorem ri_fault {d : Nat} {as : List Value} {v : Value} {h h' : hv_H} (e : hv_sem (d + 1) 15 as h = some (some v, h')) : ∃ x, v = .int x := RI_sem (sem_V_fault d as h) (RI_run (by decide)) e
theorem ri_stopped {d : Nat} {as : List Value} {v : Value} {h h' : hv_H} (e : hv_sem (d + 1) 16 as h = some (some v, h')) : ∃ x, v = .int x := RI_sem (sem_V_stopped d as h) (RI_run (by decide)) e
theorem ri_force {d : Nat} {as : List Value} {v : Value} {h h' : hv_H} (e : hv_sem (d + 1) 17 as h = some (some v, h')) : ∃ x, v = .int x := RI_sem (sem_V_force d as h) (RI_seq (RI_run (by decide)) (RI_seq (RI_blk (RI_run (by decide))) (RI_run (by decide)))) e
theorem ri_give {d : Nat} {as : List Value} {v : Value} {h h' : hv_H} (e : hv_sem (d + 1) 18 as h = some (some v, h')) : ∃ x, v = .int x := RI_sem (sem_V_give d as h) (RI_run (by decide)) e
theorem ri_lay {d : Nat} {as : List Value} {v : Value} {h h' : hv_H} (e : hv_sem (d + 1) 19 as h = some (some v, h')) : ∃ x, v = .int x := RI_sem (sem_V_lay d as h) (RI_run (by decide)) e
theorem ri_swap {d : Nat} {as : List Value} {v : Value} {h h' : hv_H} (e : hv_sem (d + 1) 20 as h = some (some v, h')) : ∃ x, v = .int x := RI_sem (sem_V_swap d as h) (RI_run (by decide)) e
theorem ri_pass {d : Nat} {as : List Value} {v : Value} {h h' : hv_H} (e : hv_sem (d + 1) 21 as h = some (some v, h')) : ∃ x, v = .int x := RI_sem (sem_V_pass d as h) (RI_run (by decide)) e
theorem ri_undo {d : Nat} {as : List Value} {v : Value} {h h' : hv_H} (e : hv_sem (d + 1) 22 as h = some (some v, h')) : ∃ x, v = .int x := RI_sem (sem_V_undo d as h) (RI_run (by decide)) e
theorem ri_best {d : Nat} {as : List Value} {v : Value} {h h' : hv_H} (e : hv_sem (d + 1) 23 as h = some (some v, h')) : ∃ x, v = .int x := RI_sem (sem_V_best d as h) (RI_run (by decide)) e
theorem ri_fair {d : Nat} {as : List Value} {v : Value} {h h' : hv_H} (e : hv_sem (d + 1) 25 as h = some (some v, h')) : ∃ x, v = .int x := RI_sem (sem_V_fair d as h) (RI_seq (RI_run (by decide)) (RI_seq (RI_blk (RI_seq (RI_blk (RI_run (by decide))) (RI_run (by decide)))) (RI_seq (RI_run (by decide)) (RI_seq (RI_blk (RI_run (by decide))) (RI_seq (RI_run (by decide)) (RI_seq (RI_blk (RI_run (by decide))) (RI_seq (RI_run (by decide)) (RI_seq (RI_blk (RI_seq (RI_blk (RI_run (by decide))) (RI_run (by decide)))) (RI_run (by decide)))))))))) e
theorem ri_wished {d : Nat} {as : List Value} {v : Value} {h h' : hv_H} (e : hv_sem (d + 1) 26 as h = some (some v, h')) : ∃ x, v = .int x := RI_sem (sem_V_wished d as h) (RI_run (by decide)) e
theorem l_hl_V_swaps_1 : RI (hl_V_swaps_1 (hv_step cm vk dv ft mc ms rt call)) := (RI_seq (RI_run (by decide)) (RI_blk (RI_seq (RI_run (by decide)) (RI_seq (RI_blk (RI_seq (RI_blk (RI_run (by decide))) (RI_seq (RI_run (by decide)) (RI_seq (RI_blk (RI_run (by decide))) (RI_run (by decide)))))) (RI_run (by decide))))))
theorem l_hl_V_swaps_0 : RI (hl_V_swaps_0 (hv_step cm vk dv ft mc ms rt call)) := (RI_seq (RI_run (by decide)) (RI_blk (RI_seq (RI_run (by decide)) (RI_seq (RI_lp (l_hl_V_swaps_1)) (RI_run (by decide))))))
theorem ri_swaps {d : Nat} {as : List Value} {v : Value} {h h' : hv_H} (e : hv_sem (d + 1) 27 as h = some (some v, h')) : ∃ x, v = .int x := RI_sem (sem_V_swaps d as h) (RI_seq (RI_run (by decide)) (RI_seq (RI_blk (RI_run (by decide))) (RI_seq (RI_run (by decide)) (RI_seq (RI_lp (l_hl_V_swaps_0)) (RI_seq (RI_run (by decide)) (RI_seq (RI_blk (RI_seq (RI_blk (RI_run (by decide))) (RI_run (by decide)))) (RI_run (by decide)))))))) e
theorem ri_hide {d : Nat} {as : List Value} {v : Value} {h h' : hv_H} (e : hv_sem (d + 1) 28 as h = some (some v, h')) : ∃ x, v = .int x := RI_sem (sem_V_hide d as h) (RI_seq (RI_run (by decide)) (RI_seq (RI_blk (RI_seq (RI_blk (RI_run (by decide))) (RI_run (by decide)))) (RI_run (by decide)))) e
theorem ri_soft {d : Nat} {as : List Value} {v : Value} {h h' : hv_H} (e : hv_sem (d + 1) 29 as h = some (some v, h')) : ∃ x, v = .int x := RI_sem (sem_V_soft d as h) (RI_seq (RI_run (by decide)) (RI_seq (RI_blk (RI_seq (RI_blk (RI_run (by decide))) (RI_run (by decide)))) (RI_run (by decide)))) e
theorem ri_kept {d : Nat} {as : List Value} {v : Value} {h h' : hv_H} (e : hv_sem (d + 1) 30 as h = some (some v, h')) : ∃ x, v = .long x := RJ_sem (sem_V_kept d as h) (RJ_seq (RJ_run (by decide)) (RJ_seq (RJ_blk (RJ_seq (RJ_blk (RJ_run (by decide))) (RJ_run (by decide)))) (RJ_run (by decide)))) e
theorem ri_seen {d : Nat} {as : List Value} {v : Value} {h h' : hv_H} (e : hv_sem (d + 1) 31 as h = some (some v, h')) : ∃ x, v = .int x := RI_sem (sem_V_seen d as h) (RI_seq (RI_run (by decide)) (RI_seq (RI_blk (RI_seq (RI_blk (RI_run (by decide))) (RI_run (by decide)))) (RI_seq (RI_run (by decide)) (RI_seq (RI_blk (RI_run (by decide))) (RI_run (by decide)))))) e
theorem ri_forget {d : Nat} {as : List Value} {v : Value} {h h' : hv_H} (e : hv_sem (d + 1) 32 as h = some (some v, h')) : ∃ x, v = .int x := RI_sem (sem_V_forget d as h) (RI_run (by decide)) e
theorem ri_who {d : Nat} {as : List Value} {v : Value} {h h' : hv_H} (e : hv_sem (d + 1) 33 as h = some (some v, h')) : ∃ x, v = .int x := RI_sem (sem_V_who d as h) (RI_run (by decide)) e
theorem ri_look {d : Nat} {as : List Value} {v : Value} {h h' : hv_H} (e : hv_sem (d + 1) 34 as h = some (some v, h')) : ∃ x, v = .int x := RI_sem (sem_V_look d as h) (RI_seq (RI_run (by decide)) (RI_seq (RI_blk (RI_seq (RI_blk (RI_run (by decide))) (RI_run (by decide)))) (RI_run (by decide)))) e
theorem ri_compare {d : Nat} {as : List Value} {v : Value} {h h' : hv_H} (e : hv_sem (d + 1) 35 as h = some (some v, h')) : ∃ x, v = .int x := RI_sem (sem_V_compare d as h) (RI_seq (RI_run (by decide)) (RI_seq (RI_blk (RI_run (by decide))) (RI_run (by decide)))) e
theorem ri_years {d : Nat} {as : List Value} {v : Value} {h h' : hv_H} (e : hv_sem (d + 1) 36 as h = some (some v, h')) : ∃ x, v = .int x := RI_sem (sem_V_years d as h) (RI_seq (RI_run (by decide)) (RI_seq (RI_blk (RI_seq (RI_blk (RI_run (by decide))) (RI_run (by decide)))) (RI_seq (RI_run (by decide)) (RI_seq (RI_blk (RI_run (by decide))) (RI_run (by decide)))))) e
theorem ri_drawn {d : Nat} {as : List Value} {v : Value} {h h' : hv_H} (e : hv_sem (d + 1) 37 as h = some (some v, h')) : ∃ x, v = .int x := RI_sem (sem_V_drawn d as h) (RI_seq (RI_run (by decide)) (RI_seq (RI_blk (RI_run (by decide))) (RI_seq (RI_run (by decide)) (RI_seq (RI_blk (RI_run (by decide))) (RI_seq (RI_run (by decide)) (RI_seq (RI_blk (RI_seq (RI_blk (RI_run (by decide))) (RI_run (by decide)))) (RI_run (by decide)))))))) e
theorem ri_image {d : Nat} {as : List Value} {v : Value} {h h' : hv_H} (e : hv_sem (d + 1) 38 as h = some (some v, h')) : ∃ x, v = .int x := RI_sem (sem_V_image d as h) (RI_seq (RI_run (by decide)) (RI_seq (RI_blk (RI_seq (RI_blk (RI_run (by decide))) (RI_run (by decide)))) (RI_seq (RI_run (by decide)) (RI_seq (RI_blk (RI_run (by decide))) (RI_run (by decide)))))) e
theorem ri_back {d : Nat} {as : List Value} {v : Value} {h h' : hv_H} (e : hv_sem (d + 1) 39 as h = some (some v, h')) : ∃ x, v = .int x := RI_sem (sem_V_back d as h) (RI_seq (RI_run (by decide)) (RI_seq (RI_blk (RI_seq (RI_blk (RI_run (by decide))) (RI_run (by decide)))) (RI_seq (RI_run (by decide)) (RI_seq (RI_blk (RI_run (by decide))) (RI_run (by decide)))))) e
theorem ri_count {d : Nat} {as : List Value} {v : Value} {h h' : hv_H} (e : hv_sem (d + 1) 40 as h = some (some v, h')) : ∃ x, v = .int x := RI_sem (sem_V_count d as h) (RI_seq (RI_run (by decide)) (RI_seq (RI_blk (RI_seq (RI_blk (RI_seq (RI_blk (RI_seq (RI_blk (RI_seq (RI_blk (RI_seq (RI_blk (RI_seq (RI_blk (RI_seq (RI_blk (RI_seq (RI_blk (RI_seq (RI_blk (RI_seq (RI_blk (RI_seq (RI_blk (RI_seq (RI_blk (RI_seq (RI_blk (RI_seq (RI_blk (RI_seq (RI_blk (RI_run (by decide))) (RI_run (by decide)))) (RI_run (by decide)))) (RI_run (by decide)))) (RI_run (by decide)))) (RI_run (by decide)))) (RI_run (by decide)))) (RI_run (by decide)))) (RI_run (by decide)))) (RI_run (by decide)))) (RI_run (by decide)))) (RI_run (by decide)))) (RI_run (by decide)))) (RI_run (by decide)))) (RI_run (by decide)))) (RI_run (by decide)))) (RI_run (by decide)))) e
theorem ri_status {d : Nat} {as : List Value} {v : Value} {h h' : hv_H} (e : hv_sem (d + 1) 41 as h = some (some v, h')) : ∃ x, v = .int x := RI_sem (sem_V_status d as h) (RI_run (by decide)) e
end RT
