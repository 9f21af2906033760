/-! The first world. -/
def hv_s0 : Nat → Int32 := fun j => if j = 13 ∨ j = 105 ∨ j = 2409 ∨ j = 2410 ∨ j = 3506 ∨ j = 4014 ∨ j = 4043 ∨ j = 4051 then -1 else 0
def hv_a0 : Nat → Nat → Int32 := fun j => if j = 42 then hv_mi 7 else if j = 46 then hv_W46 else fun _ => 0
def hv_w0 : wW := (hv_s0, hv_a0, fun _ => 0, 2, none, fun _ => none, fun _ => none, [])
def hv_c0 : va_E := .inr (10, [.ref 1, .ref 2, .ref 7, .ref 8, .ref 10, .ref 12, .ref 18, .ref 24, .ref 34, .ref 35, .ref 39, .int 0, .int 0, .int (-1), .int 0])
def hv_m0 : va_E := .inr (11, [.int 0, .ref 41, .ref 42, .ref 43, .ref 44, .ref 45, .int 0, .ref 46, .int 0, .int 0, .int 0, .ref 47, .ref 48, .int 0, .int (-1), .ref 49, .ref 50, .ref 51, .int 0, .int 0, .int 0, .int 0, .int 0, .int 0, .int 0, .int 0, .ref 52, .int 0, .int 0, .ref 53, .ref 54, .ref 55, .int 0, .ref 56, .ref 57, .ref 58, .ref 59, .ref 60, .ref 61, .int 0, .int 0, .ref 62, .ref 63, .int (-1), .int 0, .int 0, .int 0, .int 0, .int 0, .ref 64, .ref 65, .int (-1), .int 0])
theorem hv_first : yE (yE [] hv_c0 hv_V0) hv_m0 hv_M0 = wB hv_w0 := rfl
def hv_S0 : aS := ((fun _ => 0, 0, 0, [], -1, 0, fun _ => 0, fun _ => 0), fun _ => none, (0, fun _ => 0, fun _ _ => 0), (fun _ => 0, 0), (0, -1, 0, -1, fun _ => 0), (0, fun _ => 0))
theorem hv_wd0 : mWd hv_w0 := by
  have h : ∀ i, i < 132 → hv_W46 i = nI ((wFl wWs).getD i 0) := by decide +kernel
  exact h
theorem hv_v0 : vAll hv_w0 hv_S0 := by
  refine ⟨⟨⟨fun m hm => absurd hm (by omega), rfl⟩, rfl, rfl, rfl, rfl, rfl, fun i hi => absurd hi (by omega), ⟨(fun L cs hL => by cases hL), fun L _ _ => rfl⟩⟩, ⟨fun k hk => rfl, fun b0 b1 h => by cases h⟩, ⟨rfl, fun i hi => absurd hi (by omega)⟩, ⟨rfl, fun i hi => ?_⟩, ⟨rfl, rfl, rfl, rfl, fun i hi => ?_⟩, ⟨rfl, ⟨fun m hm => absurd hm (by omega), rfl⟩⟩⟩
  · rfl
  · rfl
theorem hv_m0' : mAll hv_w0 hv_S0 := by
  refine ⟨⟨⟨fun m hm => absurd hm (by omega), rfl⟩, rfl, rfl, rfl, rfl, rfl, fun i hi => absurd hi (by omega), fun L cs hL => by cases hL⟩, fun k hk => rfl, ⟨rfl, fun i hi => absurd hi (by omega)⟩, ⟨rfl, fun i hi => rfl, fun i => by show 0 < 256; omega⟩, ⟨rfl, rfl, rfl, rfl, rfl, rfl, rfl, rfl, rfl⟩, Or.inl ⟨rfl, rfl⟩, hv_wd0, false, rfl⟩
theorem hv_a0' : aAll hv_S0 := by
  refine ⟨⟨by omega, by show 0 ≤ 6; omega, Or.inl rfl, by omega, fun m hm => absurd hm (by omega), ⟨0, by omega, rfl⟩, fun i hi => absurd hi (by omega), fun cs hc => by cases hc⟩, fun k b hk h => (by cases h), ⟨by omega, fun i hi => absurd hi (by omega)⟩, fun i => by show 0 < 256; omega, by omega, by omega⟩
