/-! What a run does that begins with an instruction; what follows a block, a loop. -/
section RUN
theorem r_cons {f : Instr → hv_M} {i : Instr} {is : List Instr} {σ : hv_S} : hv_run f (i :: is) σ = hv_sk (hv_run f is) (f i σ) := rfl
theorem r_nil {f : Instr → hv_M} {σ : hv_S} : hv_run f [] σ = some (.inl (0, σ)) := rfl
theorem k_seq {a b : hv_M} {σ : hv_S} : hv_seq a b σ = hv_sk b (a σ) := rfl
theorem k_blk {a : hv_M} {σ : hv_S} : hv_blk a σ = hv_bk (a σ) := rfl
theorem k_s0 {b : hv_M} {σ : hv_S} : hv_sk b (some (.inl (0, σ))) = b σ := rfl
theorem k_s1 {b : hv_M} {k : Nat} {σ : hv_S} : hv_sk b (some (.inl (k + 1, σ))) = some (.inl (k + 1, σ)) := rfl
theorem k_sr {b : hv_M} {r : hv_R} : hv_sk b (some (.inr r)) = some (.inr r) := rfl
theorem k_sn {b : hv_M} : hv_sk b none = none := rfl
theorem k_si {b : hv_M} {c : Prop} {x y : Option hv_O} (i : Decidable c) : hv_sk b (@ite _ c i x y) = @ite _ c i (hv_sk b x) (hv_sk b y) := by split <;> rfl
theorem k_b0 {σ : hv_S} : hv_bk (some (.inl (0, σ))) = some (.inl (0, σ)) := rfl
theorem k_b1 {k : Nat} {σ : hv_S} : hv_bk (some (.inl (k + 1, σ))) = some (.inl (k, σ)) := rfl
theorem k_br {r : hv_R} : hv_bk (some (.inr r)) = some (.inr r) := rfl
theorem k_bn : hv_bk none = none := rfl
theorem k_bi {c : Prop} {x y : Option hv_O} (i : Decidable c) : hv_bk (@ite _ c i x y) = @ite _ c i (hv_bk x) (hv_bk y) := by split <;> rfl
theorem k_l0 {b : hv_M} {σ : hv_S} : hv_lk b (some (.inl (0, σ))) = some (.inl (0, σ)) := rfl
theorem k_l1 {b : hv_M} {σ : hv_S} : hv_lk b (some (.inl (1, σ))) = b σ := rfl
theorem k_l2 {b : hv_M} {k : Nat} {σ : hv_S} : hv_lk b (some (.inl (k + 2, σ))) = some (.inl (k + 1, σ)) := rfl
theorem k_lr {b : hv_M} {r : hv_R} : hv_lk b (some (.inr r)) = some (.inr r) := rfl
theorem k_ln {b : hv_M} : hv_lk b none = none := rfl
theorem k_li {b : hv_M} {c : Prop} {x y : Option hv_O} (i : Decidable c) : hv_lk b (@ite _ c i x y) = @ite _ c i (hv_lk b x) (hv_lk b y) := by split <;> rfl
theorem k_fr {r : hv_R} : hv_fin (some (.inr r)) = some r := rfl
theorem k_fi {c : Prop} {x y : Option hv_O} (i : Decidable c) : hv_fin (@ite _ c i x y) = @ite _ c i (hv_fin x) (hv_fin y) := by split <;> rfl
theorem k_nb0 : narrow .boolean (.int 0) = .int 0 := rfl
theorem k_nb1 : narrow .boolean (.int 1) = .int 1 := rfl
theorem k_nbi {c : Prop} (i : Decidable c) : narrow .boolean (.int (@ite _ c i 1 0)) = .int (@ite _ c i 1 0) := by split <;> rfl
theorem k_ni (x : Int32) : narrow .int (.int x) = .int x := rfl
theorem k_fi32 (x : Int32) : hv_fok .int (.int x) = true := by simp [hv_fok, narrow, fits]
theorem k_fn : hv_fin none = none := rfl
theorem k_w0 : hv_w [] = 0 := rfl
theorem k_wi {x : Int32} {vs : List Value} : hv_w (.int x :: vs) = 1 + hv_w vs := rfl
theorem k_wr {x : Nat} {vs : List Value} : hv_w (.ref x :: vs) = 1 + hv_w vs := rfl
theorem k_wt {x : Nat} {vs : List Value} : hv_w (.retAddr x :: vs) = 1 + hv_w vs := rfl
theorem k_wn {vs : List Value} : hv_w (.null :: vs) = 1 + hv_w vs := rfl
theorem k_wl {x : Int64} {vs : List Value} : hv_w (.long x :: vs) = 2 + hv_w vs := rfl
theorem k_in0 {n : Nat} : hv_in n [] = List.replicate n none := rfl
theorem k_ini {n : Nat} {x : Int32} {vs : List Value} : hv_in n (.int x :: vs) = some (.int x) :: hv_in (n - 1) vs := rfl
theorem k_inr {n : Nat} {x : Nat} {vs : List Value} : hv_in n (.ref x :: vs) = some (.ref x) :: hv_in (n - 1) vs := rfl
theorem k_int {n : Nat} {x : Nat} {vs : List Value} : hv_in n (.retAddr x :: vs) = some (.retAddr x) :: hv_in (n - 1) vs := rfl
theorem k_inn {n : Nat} {vs : List Value} : hv_in n (.null :: vs) = some .null :: hv_in (n - 1) vs := rfl
theorem k_inl {n : Nat} {x : Int64} {vs : List Value} : hv_in n (.long x :: vs) = some (.long x) :: none :: hv_in (n - 2) vs := rfl
theorem k_le (a b : Int32) : (a ≤ b) = ¬ (b < a) := propext Int32.not_lt.symm
theorem k_fref (x : Nat) (s : String) : hv_fok (.object s) (.ref x) = true := by simp [hv_fok, narrow, fits]
theorem k_fnul (s : String) : hv_fok (.object s) .null = true := by simp [hv_fok, narrow, fits]
theorem k_fb0 : hv_fok .boolean (.int 0) = true := by decide
theorem k_fb1 : hv_fok .boolean (.int 1) = true := by decide
end RUN
theorem gl_0 {α : Type} {x0 : α} {l : List α} : (x0 :: l)[0]? = some x0 := rfl
theorem sl_0 {α : Type} {x0 y : α} {l : List α} : (x0 :: l).set 0 y = y :: l := rfl
theorem gl_1 {α : Type} {x0 x1 : α} {l : List α} : (x0 :: x1 :: l)[1]? = some x1 := rfl
theorem sl_1 {α : Type} {x0 x1 y : α} {l : List α} : (x0 :: x1 :: l).set 1 y = x0 :: y :: l := rfl
theorem gl_2 {α : Type} {x0 x1 x2 : α} {l : List α} : (x0 :: x1 :: x2 :: l)[2]? = some x2 := rfl
theorem sl_2 {α : Type} {x0 x1 x2 y : α} {l : List α} : (x0 :: x1 :: x2 :: l).set 2 y = x0 :: x1 :: y :: l := rfl
theorem gl_3 {α : Type} {x0 x1 x2 x3 : α} {l : List α} : (x0 :: x1 :: x2 :: x3 :: l)[3]? = some x3 := rfl
theorem sl_3 {α : Type} {x0 x1 x2 x3 y : α} {l : List α} : (x0 :: x1 :: x2 :: x3 :: l).set 3 y = x0 :: x1 :: x2 :: y :: l := rfl
theorem gl_4 {α : Type} {x0 x1 x2 x3 x4 : α} {l : List α} : (x0 :: x1 :: x2 :: x3 :: x4 :: l)[4]? = some x4 := rfl
theorem sl_4 {α : Type} {x0 x1 x2 x3 x4 y : α} {l : List α} : (x0 :: x1 :: x2 :: x3 :: x4 :: l).set 4 y = x0 :: x1 :: x2 :: x3 :: y :: l := rfl
theorem gl_5 {α : Type} {x0 x1 x2 x3 x4 x5 : α} {l : List α} : (x0 :: x1 :: x2 :: x3 :: x4 :: x5 :: l)[5]? = some x5 := rfl
theorem sl_5 {α : Type} {x0 x1 x2 x3 x4 x5 y : α} {l : List α} : (x0 :: x1 :: x2 :: x3 :: x4 :: x5 :: l).set 5 y = x0 :: x1 :: x2 :: x3 :: x4 :: y :: l := rfl
theorem gl_6 {α : Type} {x0 x1 x2 x3 x4 x5 x6 : α} {l : List α} : (x0 :: x1 :: x2 :: x3 :: x4 :: x5 :: x6 :: l)[6]? = some x6 := rfl
theorem sl_6 {α : Type} {x0 x1 x2 x3 x4 x5 x6 y : α} {l : List α} : (x0 :: x1 :: x2 :: x3 :: x4 :: x5 :: x6 :: l).set 6 y = x0 :: x1 :: x2 :: x3 :: x4 :: x5 :: y :: l := rfl
theorem gl_7 {α : Type} {x0 x1 x2 x3 x4 x5 x6 x7 : α} {l : List α} : (x0 :: x1 :: x2 :: x3 :: x4 :: x5 :: x6 :: x7 :: l)[7]? = some x7 := rfl
theorem sl_7 {α : Type} {x0 x1 x2 x3 x4 x5 x6 x7 y : α} {l : List α} : (x0 :: x1 :: x2 :: x3 :: x4 :: x5 :: x6 :: x7 :: l).set 7 y = x0 :: x1 :: x2 :: x3 :: x4 :: x5 :: x6 :: y :: l := rfl
theorem gl_8 {α : Type} {x0 x1 x2 x3 x4 x5 x6 x7 x8 : α} {l : List α} : (x0 :: x1 :: x2 :: x3 :: x4 :: x5 :: x6 :: x7 :: x8 :: l)[8]? = some x8 := rfl
theorem sl_8 {α : Type} {x0 x1 x2 x3 x4 x5 x6 x7 x8 y : α} {l : List α} : (x0 :: x1 :: x2 :: x3 :: x4 :: x5 :: x6 :: x7 :: x8 :: l).set 8 y = x0 :: x1 :: x2 :: x3 :: x4 :: x5 :: x6 :: x7 :: y :: l := rfl
theorem gl_9 {α : Type} {x0 x1 x2 x3 x4 x5 x6 x7 x8 x9 : α} {l : List α} : (x0 :: x1 :: x2 :: x3 :: x4 :: x5 :: x6 :: x7 :: x8 :: x9 :: l)[9]? = some x9 := rfl
theorem sl_9 {α : Type} {x0 x1 x2 x3 x4 x5 x6 x7 x8 x9 y : α} {l : List α} : (x0 :: x1 :: x2 :: x3 :: x4 :: x5 :: x6 :: x7 :: x8 :: x9 :: l).set 9 y = x0 :: x1 :: x2 :: x3 :: x4 :: x5 :: x6 :: x7 :: x8 :: y :: l := rfl
theorem gl_10 {α : Type} {x0 x1 x2 x3 x4 x5 x6 x7 x8 x9 x10 : α} {l : List α} : (x0 :: x1 :: x2 :: x3 :: x4 :: x5 :: x6 :: x7 :: x8 :: x9 :: x10 :: l)[10]? = some x10 := rfl
theorem sl_10 {α : Type} {x0 x1 x2 x3 x4 x5 x6 x7 x8 x9 x10 y : α} {l : List α} : (x0 :: x1 :: x2 :: x3 :: x4 :: x5 :: x6 :: x7 :: x8 :: x9 :: x10 :: l).set 10 y = x0 :: x1 :: x2 :: x3 :: x4 :: x5 :: x6 :: x7 :: x8 :: x9 :: y :: l := rfl
theorem gl_11 {α : Type} {x0 x1 x2 x3 x4 x5 x6 x7 x8 x9 x10 x11 : α} {l : List α} : (x0 :: x1 :: x2 :: x3 :: x4 :: x5 :: x6 :: x7 :: x8 :: x9 :: x10 :: x11 :: l)[11]? = some x11 := rfl
theorem sl_11 {α : Type} {x0 x1 x2 x3 x4 x5 x6 x7 x8 x9 x10 x11 y : α} {l : List α} : (x0 :: x1 :: x2 :: x3 :: x4 :: x5 :: x6 :: x7 :: x8 :: x9 :: x10 :: x11 :: l).set 11 y = x0 :: x1 :: x2 :: x3 :: x4 :: x5 :: x6 :: x7 :: x8 :: x9 :: x10 :: y :: l := rfl
theorem gl_12 {α : Type} {x0 x1 x2 x3 x4 x5 x6 x7 x8 x9 x10 x11 x12 : α} {l : List α} : (x0 :: x1 :: x2 :: x3 :: x4 :: x5 :: x6 :: x7 :: x8 :: x9 :: x10 :: x11 :: x12 :: l)[12]? = some x12 := rfl
theorem sl_12 {α : Type} {x0 x1 x2 x3 x4 x5 x6 x7 x8 x9 x10 x11 x12 y : α} {l : List α} : (x0 :: x1 :: x2 :: x3 :: x4 :: x5 :: x6 :: x7 :: x8 :: x9 :: x10 :: x11 :: x12 :: l).set 12 y = x0 :: x1 :: x2 :: x3 :: x4 :: x5 :: x6 :: x7 :: x8 :: x9 :: x10 :: x11 :: y :: l := rfl
def b2i (b : Bool) : Int32 := if b then 1 else 0
theorem b2i_t : b2i true = 1 := rfl
theorem b2i_f : b2i false = 0 := rfl
theorem k_fbb (b : Bool) : hv_fok .boolean (.int (b2i b)) = true := by cases b <;> decide
theorem k_nbb (b : Bool) : narrow .boolean (.int (b2i b)) = .int (b2i b) := by cases b <;> rfl
/-! Numbers: rows for a simp whose side goals are told by omega. -/
theorem nI_lits (a b : Nat) : (no_index (OfNat.ofNat a : Int32)) + nI b = nI ((OfNat.ofNat a : Nat) + b) := nI_add a b
theorem nI_litr (a b : Nat) : nI b + (no_index (OfNat.ofNat a : Int32)) = nI (b + (OfNat.ofNat a : Nat)) := nI_add b a
theorem nI_litm (a b : Nat) : (no_index (OfNat.ofNat a : Int32)) * nI b = nI ((OfNat.ofNat a : Nat) * b) := pk_mul a b
theorem nI_litn (a b : Nat) : nI b * (no_index (OfNat.ofNat a : Int32)) = nI (b * (OfNat.ofNat a : Nat)) := pk_mul b a
theorem a_clamp {n : Nat} (h : n < 2 ^ 31) : (nI n).toNatClampNeg = n := nI_clamp h
theorem a_subl (a b : Nat) (h : (OfNat.ofNat a : Nat) ≤ b) : nI b - (no_index (OfNat.ofNat a : Int32)) = nI (b - (OfNat.ofNat a : Nat)) := pk_sub h
theorem a_lsub (a b : Nat) (h : b ≤ (OfNat.ofNat a : Nat)) : (no_index (OfNat.ofNat a : Int32)) - nI b = nI ((OfNat.ofNat a : Nat) - b) := pk_sub h
theorem a_sub (a b : Nat) (h : a ≤ b) : nI b - nI a = nI (b - a) := pk_sub h
theorem a_lt {a b : Nat} (ha : a < 2 ^ 31) (hb : b < 2 ^ 31) : (nI a < nI b) = (a < b) := propext (nI_ltI ha hb)
theorem a_ltl {a b : Nat} (ha : a < 2 ^ 31) (hb : (OfNat.ofNat b : Nat) < 2 ^ 31) : (nI a < (no_index (OfNat.ofNat b : Int32))) = (a < (OfNat.ofNat b : Nat)) := propext (nI_ltI ha hb)
theorem a_llt {a b : Nat} (ha : (OfNat.ofNat a : Nat) < 2 ^ 31) (hb : b < 2 ^ 31) : ((no_index (OfNat.ofNat a : Int32)) < nI b) = ((OfNat.ofNat a : Nat) < b) := propext (nI_ltI ha hb)
theorem a_eq {a b : Nat} (ha : a < 2 ^ 31) (hb : b < 2 ^ 31) : (nI a = nI b) = (a = b) := propext (nI_eq ha hb)
theorem a_eql {a b : Nat} (ha : a < 2 ^ 31) (hb : (OfNat.ofNat b : Nat) < 2 ^ 31) : (nI a = (no_index (OfNat.ofNat b : Int32))) = (a = (OfNat.ofNat b : Nat)) := propext (nI_eq ha hb)
theorem a_leq {a b : Nat} (ha : (OfNat.ofNat a : Nat) < 2 ^ 31) (hb : b < 2 ^ 31) : ((no_index (OfNat.ofNat a : Int32)) = nI b) = ((OfNat.ofNat a : Nat) = b) := propext (nI_eq ha hb)
theorem a_m1 {a : Nat} (ha : a < 2 ^ 31) : (nI a = -1) = False := by
  rw [eq_iff_iff, iff_false]
  intro q
  have := congrArg Int32.toInt q
  rw [nI_toInt ha] at this
  have e : (-1 : Int32).toInt = -1 := rfl
  omega
theorem a_m1r {a : Nat} (ha : a < 2 ^ 31) : (-1 = nI a) = False := eq_false (fun q => (a_m1 ha).mp q.symm)
theorem a_neg {a : Nat} (ha : a < 2 ^ 31) : (nI a < -1) = False := by
  rw [eq_iff_iff, iff_false, Int32.lt_iff_toInt_lt, nI_toInt ha]
  have e : (-1 : Int32).toInt = -1 := rfl
  omega
theorem a_lt0 {a : Nat} (ha : a < 2 ^ 31) : (nI a < 0) = False := eq_false (nI_pos ha)
theorem a_0lt {a : Nat} (ha : a < 2 ^ 31) : (0 < nI a) = (0 < a) := propext (nI_ltI (a := 0) (by omega) ha)
theorem a_eq0 {a : Nat} (ha : a < 2 ^ 31) : (nI a = 0) = (a = 0) := propext (nI_eq (b := 0) ha (by omega))
theorem a_0eq {a : Nat} (ha : a < 2 ^ 31) : (0 = nI a) = (0 = a) := propext (nI_eq (a := 0) (by omega) ha)
theorem n_lt1 {a b : Nat} (h : a < b) : (a < b) = True := eq_true h
theorem n_lt0 {a b : Nat} (h : b ≤ a) : (a < b) = False := eq_false (Nat.not_lt.mpr h)
theorem n_le1 {a b : Nat} (h : a ≤ b) : (a ≤ b) = True := eq_true h
theorem n_le0 {a b : Nat} (h : b < a) : (a ≤ b) = False := eq_false (Nat.not_le.mpr h)
theorem n_eq1 {a b : Nat} (h : a = b) : (a = b) = True := eq_true h
theorem n_eq0 {a b : Nat} (h : a ≠ b) : (a = b) = False := eq_false h
/-- a number is a small one, or below 0, or beyond -/
theorem n_in (x : Int32) (b : Nat) (hb : b < 2 ^ 31) : (∃ k : Nat, k < b ∧ x = nI k) ∨ x < 0 ∨ (¬ x < 0 ∧ ¬ x < nI b) := by
  rcases pk_ix x hb with h | h | h
  · exact Or.inr (Or.inl h)
  · refine Or.inr (Or.inr ⟨?_, Int32.not_lt.mpr h⟩)
    intro q
    have h1 := Int32.le_iff_toInt_le.mp h
    have h2 := Int32.lt_iff_toInt_lt.mp q
    rw [nI_toInt hb] at h1
    have e : (0 : Int32).toInt = 0 := rfl
    omega
  · exact Or.inl h
/-! Loops. -/
theorem lp_for {B : hv_M} {S : Nat → hv_S} {n : Nat} {r : Option hv_O} (hs : ∀ i, i < n → B (S i) = some (.inl (1, S (i + 1)))) (he : hv_lk (hv_lp B) (B (S n)) = r) : hv_lp B (S 0) = r := by
  have key : ∀ k, k ≤ n → hv_lp B (S (n - k)) = r := by
    intro k
    induction k with
    | zero => intro _; rw [Nat.sub_zero, hv_lp_eq]; exact he
    | succ k ih =>
      intro hk
      rw [hv_lp_eq, hs _ (by omega)]
      show hv_lp B (S (n - (k + 1) + 1)) = r
      rw [show n - (k + 1) + 1 = n - k by omega]
      exact ih (by omega)
  have := key n (Nat.le_refl n)
  rwa [Nat.sub_self] at this
/-- a loop of n rounds, whose state behind i rounds is S i -/
theorem lp_n {B : hv_M} {σ : hv_S} (S : Nat → hv_S) (n : Nat) (h0 : σ = S 0) (hs : ∀ i, i < n → B (S i) = some (.inl (1, S (i + 1)))) (he : B (S n) = some (.inl (0, S n))) : hv_lp B σ = some (.inl (0, S n)) := by
  rw [h0]
  exact lp_for hs (by rw [he]; rfl)
/-- a loop that is left by a return in round n -/
theorem lp_r {B : hv_M} {σ : hv_S} (S : Nat → hv_S) (n : Nat) (q : hv_R) (h0 : σ = S 0) (hs : ∀ i, i < n → B (S i) = some (.inl (1, S (i + 1)))) (he : B (S n) = some (.inr q)) : hv_lp B σ = some (.inr q) := by
  rw [h0]
  exact lp_for hs (by rw [he]; rfl)
/-- a loop of n rounds: what holds behind i rounds of a state that is known by its parts x -/
theorem lp_x {X : Type} {B : hv_M} {σ : hv_S} (St : Nat → X → hv_S) (P : Nat → X → Prop) (n : Nat) (x0 : X) (h0 : σ = St 0 x0) (hp : P 0 x0) (hs : ∀ i x, i < n → P i x → ∃ x', B (St i x) = some (.inl (1, St (i + 1) x')) ∧ P (i + 1) x') (he : ∀ x, P n x → B (St n x) = some (.inl (0, St n x))) : ∃ x, hv_lp B σ = some (.inl (0, St n x)) ∧ P n x := by
  rw [h0]
  have key : ∀ k i x, i + k = n → P i x → ∃ x', hv_lp B (St i x) = some (.inl (0, St n x')) ∧ P n x' := by
    intro k
    induction k with
    | zero =>
      intro i x hi hx
      rw [Nat.add_zero] at hi
      subst hi
      exact ⟨x, by rw [hv_lp_eq, he x hx]; rfl, hx⟩
    | succ k ih =>
      intro i x hi hx
      obtain ⟨x1, e1, p1⟩ := hs i x (by omega) hx
      obtain ⟨x2, e2, p2⟩ := ih (i + 1) x1 (by omega) p1
      exact ⟨x2, by rw [hv_lp_eq, e1]; exact e2, p2⟩
  exact key n 0 x0 (by omega) hp
/-- likewise, where a round may return -/
theorem lp_xr {X : Type} {B : hv_M} {σ : hv_S} (St : Nat → X → hv_S) (P : Nat → X → Prop) (Q : hv_R → Prop) (n : Nat) (x0 : X) (h0 : σ = St 0 x0) (hp : P 0 x0) (hs : ∀ i x, i < n → P i x → (∃ x', B (St i x) = some (.inl (1, St (i + 1) x')) ∧ P (i + 1) x') ∨ ∃ r, B (St i x) = some (.inr r) ∧ Q r) (he : ∀ x, P n x → B (St n x) = some (.inl (0, St n x))) : (∃ x, hv_lp B σ = some (.inl (0, St n x)) ∧ P n x) ∨ ∃ r, hv_lp B σ = some (.inr r) ∧ Q r := by
  rw [h0]
  have key : ∀ k i x, i + k = n → P i x → (∃ x', hv_lp B (St i x) = some (.inl (0, St n x')) ∧ P n x') ∨ ∃ r, hv_lp B (St i x) = some (.inr r) ∧ Q r := by
    intro k
    induction k with
    | zero =>
      intro i x hi hx
      rw [Nat.add_zero] at hi
      subst hi
      exact Or.inl ⟨x, by rw [hv_lp_eq, he x hx]; rfl, hx⟩
    | succ k ih =>
      intro i x hi hx
      rcases hs i x (by omega) hx with ⟨x1, e1, p1⟩ | ⟨r, e1, q1⟩
      · rcases ih (i + 1) x1 (by omega) p1 with ⟨x2, e2, p2⟩ | ⟨r, e2, q2⟩
        · exact Or.inl ⟨x2, by rw [hv_lp_eq, e1]; exact e2, p2⟩
        · exact Or.inr ⟨r, by rw [hv_lp_eq, e1]; exact e2, q2⟩
      · exact Or.inr ⟨r, by rw [hv_lp_eq, e1]; rfl, q1⟩
  exact key n 0 x0 (by omega) hp
