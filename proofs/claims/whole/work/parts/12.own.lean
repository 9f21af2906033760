/-! A method's own words; the classes' words. -/
def hv_ar (y : MethodName) : Option Nat := (parseMethodDescriptor y.desc).map (fun d => d.parameters.length)
def hv_MPok (j : Nat) : Bool := (match hv_vk j with
    | none => hv_inT (.static (hv_y j)) (hv_MP.getD j (0, 0, 0, 0)).2.1
    | some ci => hv_inT (.instanceMethod (hv_y j)) (hv_MP.getD j (0, 0, 0, 0)).2.1 && decide ((hv_y j).cls = hv_on ci) && decide (ci < 12) && (hv_ii j || hv_inT (.selects (hv_y j).cls (hv_y j) (hv_y j)) (hv_MP.getD j (0, 0, 0, 0)).2.2.1)) && hv_inT (.initialized (hv_y j).cls) (hv_MP.getD j (0, 0, 0, 0)).2.2.2 && plainFor (hv_y j) && decide ((hv_y j).cls = hv_on (hv_ow j)) && decide (hv_nL j ≤ 81) && (hv_ii j == decide ((hv_y j).name = "<init>")) && decide ((hv_y j).cls ≠ "java/lang/invoke/MethodHandle" ∧ (hv_y j).cls ≠ "java/lang/invoke/VarHandle")
set_option maxRecDepth 100000 in
theorem hv_MP_ok1 : (List.range 80).all (fun j => hv_MPok j) = true := by decide +kernel
set_option maxRecDepth 100000 in
theorem hv_MP_ok2 : (List.range 80).all (fun j => hv_MPok (80 + j)) = true := by decide +kernel
set_option maxRecDepth 100000 in
theorem hv_MP_ok3 : (List.range 80).all (fun j => hv_MPok (160 + j)) = true := by decide +kernel
set_option maxRecDepth 100000 in
theorem hv_MP_ok4 : (List.range 65).all (fun j => hv_MPok (240 + j)) = true := by decide +kernel
theorem hv_MP_ok {j : Nat} (h : j < 305) : hv_MPok j = true := by
  by_cases h1 : j < 80
  · exact List.all_eq_true.mp hv_MP_ok1 j (List.mem_range.mpr h1)
  · by_cases h2 : j < 160
    · have := List.all_eq_true.mp hv_MP_ok2 (j - 80) (List.mem_range.mpr (by omega))
      rwa [show 80 + (j - 80) = j by omega] at this
    · by_cases h3 : j < 240
      · have := List.all_eq_true.mp hv_MP_ok3 (j - 160) (List.mem_range.mpr (by omega))
        rwa [show 160 + (j - 160) = j by omega] at this
      · have := List.all_eq_true.mp hv_MP_ok4 (j - 240) (List.mem_range.mpr (by omega))
        rwa [show 240 + (j - 240) = j by omega] at this
set_option maxRecDepth 100000 in
theorem hv_uw_ok : (List.range 12).all (fun ci => (u_ws (hv_on ci) (hv_T ci) (hv_N ci)).all (fun w => decide (w ∈ lw_tbl) && goodWord w)) = true := by decide +kernel
theorem hv_uw {ci : Nat} (h : ci < 12) : ∀ w ∈ u_ws (hv_on ci) (hv_T ci) (hv_N ci), w ∈ hv_G := by
  intro w hw
  have h1 := List.all_eq_true.mp (List.all_eq_true.mp hv_uw_ok ci (List.mem_range.mpr h)) w hw
  simp only [Bool.and_eq_true, decide_eq_true_eq] at h1
  exact List.mem_filter.mpr h1
theorem hv_cl {ci : Nat} (h : ci < 12) : vwCl[ci]? = some (hv_on ci, hv_T ci, hv_N ci) := by
  match ci, h with
  | 0, _ => rfl
  | 1, _ => rfl
  | 2, _ => rfl
  | 3, _ => rfl
  | 4, _ => rfl
  | 5, _ => rfl
  | 6, _ => rfl
  | 7, _ => rfl
  | 8, _ => rfl
  | 9, _ => rfl
  | 10, _ => rfl
  | 11, _ => rfl
theorem hv_ty {ci : Nat} (h : ci < 12) : ∀ k, k < hv_N ci → parseFieldDescriptor (hv_T ci k).2.2.1 = some (hv_ft ci k) := by
  match ci, h with
  | 0, _ => exact tyX0_ok
  | 1, _ => exact tyX1_ok
  | 2, _ => exact tyX2_ok
  | 3, _ => exact tyX3_ok
  | 4, _ => exact tyX4_ok
  | 5, _ => exact tyX5_ok
  | 6, _ => exact tyX6_ok
  | 7, _ => exact tyX7_ok
  | 8, _ => exact tyX8_ok
  | 9, _ => exact tyX9_ok
  | 10, _ => exact tyX10_ok
  | 11, _ => exact tyX11_ok
theorem hv_nm {ci : Nat} (h : ci < 12) : ∀ a, a < hv_N ci → ∀ b, b < hv_N ci → a ≠ b → (hv_T ci a).2.1 ≠ (hv_T ci b).2.1 := by
  match ci, h with
  | 0, _ => exact nmX0
  | 1, _ => exact nmX1
  | 2, _ => exact nmX2
  | 3, _ => exact nmX3
  | 4, _ => exact nmX4
  | 5, _ => exact nmX5
  | 6, _ => exact nmX6
  | 7, _ => exact nmX7
  | 8, _ => exact nmX8
  | 9, _ => exact nmX9
  | 10, _ => exact nmX10
  | 11, _ => exact nmX11
set_option maxRecDepth 100000 in
theorem hv_dv_ok : (List.range 12).all (fun ci => decide ((hv_dv ci).length = hv_N ci) && (List.range (hv_N ci)).all (fun j => decide ((hv_dv ci)[j]? = some (defaultValue (hv_ft ci j))))) = true := by decide +kernel
theorem hv_dv_len {ci : Nat} (h : ci < 12) : (hv_dv ci).length = hv_N ci := by
  have h1 := List.all_eq_true.mp hv_dv_ok ci (List.mem_range.mpr h)
  simp only [Bool.and_eq_true, decide_eq_true_eq] at h1
  exact h1.1
theorem hv_dv_at {ci : Nat} (h : ci < 12) : ∀ j, j < hv_N ci → (hv_dv ci)[j]? = some (defaultValue (hv_ft ci j)) := by
  intro j hj
  have h1 := List.all_eq_true.mp hv_dv_ok ci (List.mem_range.mpr h)
  simp only [Bool.and_eq_true] at h1
  have h2 := List.all_eq_true.mp h1.2 j (List.mem_range.mpr hj)
  simpa using h2
set_option maxRecDepth 100000 in
theorem hv_ar_V : hv_MV.all (fun x => decide (x.2.2.1 < 305) && decide (hv_ar (hv_y x.2.2.1) = some (x.2.2.2.1 - 1)) && decide (1 ≤ x.2.2.2.1) && !(hv_ii x.2.2.1) && (hv_vk x.2.2.1).isSome) = true := by decide +kernel
set_option maxRecDepth 100000 in
theorem hv_ar_S : (hv_MS ++ hv_MSN).all (fun x => decide (x.2.2.1 < 305) && decide (hv_ar (hv_y x.2.2.1) = some x.2.2.2.1) && (hv_vk x.2.2.1).isNone) = true := by decide +kernel
set_option maxRecDepth 100000 in
theorem hv_ar_I : (hv_MI ++ hv_MIN).all (fun x => decide (x.2.2.1 < 305) && decide (hv_ar (hv_y x.2.2.1) = some (x.2.2.2.1 - 1)) && decide (1 ≤ x.2.2.2.1) && hv_ii x.2.2.1 && (hv_vk x.2.2.1).isSome && decide (hv_rt x.2.2.1 = none)) = true := by decide +kernel
