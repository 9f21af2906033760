/-! Structured code implements bytecode: 'Sf pc σ' says that the machine, at pc in the state σ, comes to a good end; each judgement goes from the end to the start. -/
def hv_ok (Sf : Nat → hv_S → Prop) (Fn : hv_R → Prop) (pc' : Nat) (lb : List Nat) : hv_O → Prop
  | .inl (0, σ) => Sf pc' σ
  | .inl (k + 1, σ) => ∃ t, lb[k]? = some t ∧ Sf t σ
  | .inr r => Fn r
def hv_I (Sf : Nat → hv_S → Prop) (Fn : hv_R → Prop) (pc : Nat) (lb : List Nat) (a : hv_M) (pc' : Nat) : Prop := ∀ (σ : hv_S) (r : hv_O), a σ = some r → hv_ok Sf Fn pc' lb r → Sf pc σ
section HVI
variable {Sf : Nat → hv_S → Prop} {Fn : hv_R → Prop} {pc pc1 pc' : Nat} {lb : List Nat} {a b : hv_M}
theorem hv_I_seq (ha : hv_I Sf Fn pc lb a pc1) (hb : hv_I Sf Fn pc1 lb b pc') : hv_I Sf Fn pc lb (hv_seq a b) pc' := by
  intro σ r h ok
  unfold hv_seq at h
  match e : a σ, h with
  | some (.inl (0, τ)), h => exact ha σ _ e (hb τ r h ok)
  | some (.inl (k + 1, τ)), h =>
    cases Option.some.inj h
    exact ha σ _ e ok
  | some (.inr q), h =>
    cases Option.some.inj h
    exact ha σ _ e ok
theorem hv_I_blk (ha : hv_I Sf Fn pc (pc' :: lb) a pc') : hv_I Sf Fn pc lb (hv_blk a) pc' := by
  intro σ r h ok
  unfold hv_blk at h
  match e : a σ, h with
  | some (.inl (0, τ)), h =>
    cases Option.some.inj h
    exact ha σ _ e ok
  | some (.inl (1, τ)), h =>
    cases Option.some.inj h
    exact ha σ _ e ⟨pc', rfl, ok⟩
  | some (.inl (k + 2, τ)), h =>
    cases Option.some.inj h
    obtain ⟨t, h1, h2⟩ := ok
    exact ha σ _ e ⟨t, h1, h2⟩
  | some (.inr q), h =>
    cases Option.some.inj h
    exact ha σ _ e ok
theorem hv_I_lpn (ha : hv_I Sf Fn pc (pc :: lb) a pc') : ∀ n, hv_I Sf Fn pc lb (hv_lpn a n) pc'
  | 0, σ, r, h, _ => by cases h
  | n + 1, σ, r, h, ok => by
    rw [hv_lpn] at h
    match e : a σ, h with
    | some (.inl (0, τ)), h =>
      cases Option.some.inj h
      exact ha σ _ e ok
    | some (.inl (1, τ)), h => exact ha σ _ e ⟨pc, rfl, hv_I_lpn ha n τ r h ok⟩
    | some (.inl (k + 2, τ)), h =>
      cases Option.some.inj h
      obtain ⟨t, h1, h2⟩ := ok
      exact ha σ _ e ⟨t, h1, h2⟩
    | some (.inr q), h =>
      cases Option.some.inj h
      exact ha σ _ e ok
theorem hv_I_lp (ha : hv_I Sf Fn pc (pc :: lb) a pc') : hv_I Sf Fn pc lb (hv_lp a) pc' := by
  intro σ r h ok
  obtain ⟨n, hn⟩ := hv_lp_ex h
  exact hv_I_lpn ha n σ r hn ok
end HVI
/-- a row of instructions is that at pc: 'ck' tells of one instruction, and where the next one begins -/
def hv_cks (ck : Nat → Instr → Option Nat) : Nat → List Instr → Option Nat
  | pc, [] => some pc
  | pc, i :: is => match ck pc i with
    | some pc1 => hv_cks ck pc1 is
    | none => none
theorem hv_I_run {Sf : Nat → hv_S → Prop} {Fn : hv_R → Prop} {lb : List Nat} {ck : Nat → Instr → Option Nat} {f : Instr → hv_M} (hf : ∀ pc i pc', ck pc i = some pc' → hv_I Sf Fn pc lb (f i) pc') : ∀ (is : List Instr) (pc pc' : Nat), hv_cks ck pc is = some pc' → hv_I Sf Fn pc lb (hv_run f is) pc'
  | [], pc, pc', h => by
    cases h
    intro σ r h ok
    cases Option.some.inj h
    exact ok
  | i :: is, pc, pc', h => by
    unfold hv_cks at h
    cases e : ck pc i with
    | none => rw [e] at h; cases h
    | some pc1 =>
      rw [e] at h
      exact hv_I_seq (hf pc i pc1 e) (hv_I_run hf is pc1 pc' h)
