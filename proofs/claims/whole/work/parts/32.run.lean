/-! What a run does that begins with an instruction; what follows a block, a loop. -/
section RUN
theorem r_cons {f : Instr → hv_M} {i : Instr} {is : List Instr} {σ : hv_S} : hv_run f (i :: is) σ = hv_sk (hv_run f is) (f i σ) := rfl
theorem r_nil {f : Instr → hv_M} {σ : hv_S} : hv_run f [] σ = some (.inl (0, σ)) := rfl
theorem k_seq {a b : hv_M} {σ : hv_S} : hv_seq a b σ = hv_sk b (a σ) := rfl
theorem k_blk {a : hv_M} {σ : hv_S} : hv_blk a σ = hv_bk (a σ) := rfl
theorem k_s0 {b : hv_M} {σ : hv_S} : hv_sk b (some (.inl (0, σ))) = b σ := rfl
theorem k_s1 {b : hv_M} {k : Nat} {σ : hv_S} : hv_sk b (some (.inl (k + 1, σ))) = some (.inl (k + 1, σ)) := rfl
theorem k_sr {b : hv_M} {r : hv_R} : hv_sk b (some (.inr r)) = some (.inr r) := rfl
theorem k_sn {b : hv_M} : hv_sk b none = none := rfl
theorem k_si {b : hv_M} {c : Prop} {x y : Option hv_O} (i : Decidable c) : hv_sk b (@ite _ c i x y) = @ite _ c i (hv_sk b x) (hv_sk b y) := by split <;> rfl
theorem k_b0 {σ : hv_S} : hv_bk (some (.inl (0, σ))) = some (.inl (0, σ)) := rfl
theorem k_b1 {k : Nat} {σ : hv_S} : hv_bk (some (.inl (k + 1, σ))) = some (.inl (k, σ)) := rfl
theorem k_br {r : hv_R} : hv_bk (some (.inr r)) = some (.inr r) := rfl
theorem k_bn : hv_bk none = none := rfl
theorem k_bi {c : Prop} {x y : Option hv_O} (i : Decidable c) : hv_bk (@ite _ c i x y) = @ite _ c i (hv_bk x) (hv_bk y) := by split <;> rfl
theorem k_l0 {b : hv_M} {σ : hv_S} : hv_lk b (some (.inl (0, σ))) = some (.inl (0, σ)) := rfl
theorem k_l1 {b : hv_M} {σ : hv_S} : hv_lk b (some (.inl (1, σ))) = b σ := rfl
theorem k_l2 {b : hv_M} {k : Nat} {σ : hv_S} : hv_lk b (some (.inl (k + 2, σ))) = some (.inl (k + 1, σ)) := rfl
theorem k_lr {b : hv_M} {r : hv_R} : hv_lk b (some (.inr r)) = some (.inr r) := rfl
theorem k_ln {b : hv_M} : hv_lk b none = none := rfl
theorem k_li {b : hv_M} {c : Prop} {x y : Option hv_O} (i : Decidable c) : hv_lk b (@ite _ c i x y) = @ite _ c i (hv_lk b x) (hv_lk b y) := by split <;> rfl
theorem k_fr {r : hv_R} : hv_fin (some (.inr r)) = some r := rfl
theorem k_fi {c : Prop} {x y : Option hv_O} (i : Decidable c) : hv_fin (@ite _ c i x y) = @ite _ c i (hv_fin x) (hv_fin y) := by split <;> rfl
theorem k_nb0 : narrow .boolean (.int 0) = .int 0 := rfl
theorem k_nb1 : narrow .boolean (.int 1) = .int 1 := rfl
theorem k_nbi {c : Prop} (i : Decidable c) : narrow .boolean (.int (@ite _ c i 1 0)) = .int (@ite _ c i 1 0) := by split <;> rfl
theorem k_ni (x : Int32) : narrow .int (.int x) = .int x := rfl
theorem k_fi32 (x : Int32) : hv_fok .int (.int x) = true := by simp [hv_fok, narrow, fits]
theorem k_fn : hv_fin none = none := rfl
theorem k_w0 : hv_w [] = 0 := rfl
theorem k_wi {x : Int32} {vs : List Value} : hv_w (.int x :: vs) = 1 + hv_w vs := rfl
theorem k_wr {x : Nat} {vs : List Value} : hv_w (.ref x :: vs) = 1 + hv_w vs := rfl
theorem k_wt {x : Nat} {vs : List Value} : hv_w (.retAddr x :: vs) = 1 + hv_w vs := rfl
theorem k_wn {vs : List Value} : hv_w (.null :: vs) = 1 + hv_w vs := rfl
theorem k_wl {x : Int64} {vs : List Value} : hv_w (.long x :: vs) = 2 + hv_w vs := rfl
theorem k_in0 {n : Nat} : hv_in n [] = List.replicate n none := rfl
theorem k_ini {n : Nat} {x : Int32} {vs : List Value} : hv_in n (.int x :: vs) = some (.int x) :: hv_in (n - 1) vs := rfl
theorem k_inr {n : Nat} {x : Nat} {vs : List Value} : hv_in n (.ref x :: vs) = some (.ref x) :: hv_in (n - 1) vs := rfl
theorem k_int {n : Nat} {x : Nat} {vs : List Value} : hv_in n (.retAddr x :: vs) = some (.retAddr x) :: hv_in (n - 1) vs := rfl
theorem k_inn {n : Nat} {vs : List Value} : hv_in n (.null :: vs) = some .null :: hv_in (n - 1) vs := rfl
theorem k_inl {n : Nat} {x : Int64} {vs : List Value} : hv_in n (.long x :: vs) = some (.long x) :: none :: hv_in (n - 2) vs := rfl
theorem k_le (a b : Int32) : (a ≤ b) = ¬ (b < a) := propext Int32.not_lt.symm
end RUN
