/-! An image's six cells as a lens. -/
def imL (b : Nat) (F : Nat → Int32) (la : Nat → Option Nat) (SV SS : Nat → Int32) (p q r : Int32) : hv_H := [.inr (9, [.ref (b + 1), .ref (b + 3), .ref (b + 4), .ref (b + 5), .int p, .int q, .int r]), .inr (3, [.ref (b + 2)]), .inl (0, 66, .inl F), .inl (5, 6, .inr (.inr (.inr (.inr la)))), .inl (0, 8, .inl SV), .inl (0, 8, .inl SS)]
def wG (w : wW) (b : Nat) (D1 D2 : hv_H) (F : Nat → Int32) (la : Nat → Option Nat) (SV SS : Nat → Int32) (p q r : Int32) : wW := s_dy w (D1 ++ (imL b F la SV SS p q r ++ D2))
section WG
variable {w : wW} {b : Nat} {D1 D2 : hv_H} {F F' SV SS f : Nat → Int32} {la la' : Nat → Option Nat} {p q r x : Int32}
variable {cm : Nat → Nat × Nat} {vk : Nat → Option Nat} {dv : Nat → List Value} {ft : Nat → Nat → FieldType} {mc ms : Nat} {rt : Option FieldType} {call : Nat → List Value → hv_H → Option hv_R} {ls : List (Option Value)} {st : List Value} {nc ns : Nat}
theorem wg_get {i : Nat} (hb : b = 66 + D1.length) (hi : i < 6) : (wB (wG w b D1 D2 F la SV SS p q r))[b + i]? = (imL b F la SV SS p q r)[i]? := by
  have hL : (imL b F la SV SS p q r).length = 6 := rfl
  rw [wG, wr_dy (by omega), g_dy_dy, show b + i - 66 = D1.length + i by omega, List.getElem?_append_right (by omega), Nat.add_sub_cancel_left, List.getElem?_append_left (by omega)]
theorem wg_set {i : Nat} {x : va_E} (hb : b = 66 + D1.length) (hi : i < 6) : (wB (wG w b D1 D2 F la SV SS p q r)).set (b + i) x = wB (s_dy w (D1 ++ ((imL b F la SV SS p q r).set i x ++ D2))) := by
  have hL : (imL b F la SV SS p q r).length = 6 := rfl
  rw [wG, ww_dy (by omega), g_dy_dy, n_dydy, show b + i - 66 = D1.length + i by omega, List.set_append_right _ _ (by omega), Nat.add_sub_cancel_left, List.set_append_left _ _ (by omega)]
theorem wg_0 (hb : b = 66 + D1.length) : (wB (wG w b D1 D2 F la SV SS p q r))[b]? = some (.inr (9, [.ref (b + 1), .ref (b + 3), .ref (b + 4), .ref (b + 5), .int p, .int q, .int r])) := wg_get (i := 0) hb (by omega)
theorem wg_1 (hb : b = 66 + D1.length) : (wB (wG w b D1 D2 F la SV SS p q r))[b + 1]? = some (.inr (3, [.ref (b + 2)])) := wg_get hb (by omega)
theorem wg_2 (hb : b = 66 + D1.length) : (wB (wG w b D1 D2 F la SV SS p q r))[b + 2]? = some (.inl (0, 66, .inl F)) := wg_get hb (by omega)
theorem wg_3 (hb : b = 66 + D1.length) : (wB (wG w b D1 D2 F la SV SS p q r))[b + 3]? = some (.inl (5, 6, .inr (.inr (.inr (.inr la))))) := wg_get hb (by omega)
theorem wg_4 (hb : b = 66 + D1.length) : (wB (wG w b D1 D2 F la SV SS p q r))[b + 4]? = some (.inl (0, 8, .inl SV)) := wg_get hb (by omega)
theorem wg_5 (hb : b = 66 + D1.length) : (wB (wG w b D1 D2 F la SV SS p q r))[b + 5]? = some (.inl (0, 8, .inl SS)) := wg_get hb (by omega)
theorem ws_0 {x y z : Int32} (hb : b = 66 + D1.length) : (wB (wG w b D1 D2 F la SV SS p q r)).set b (.inr (9, [.ref (b + 1), .ref (b + 3), .ref (b + 4), .ref (b + 5), .int x, .int y, .int z])) = wB (wG w b D1 D2 F la SV SS x y z) := wg_set (i := 0) hb (by omega)
theorem ws_2 (hb : b = 66 + D1.length) : (wB (wG w b D1 D2 F la SV SS p q r)).set (b + 2) (.inl (0, 66, .inl f)) = wB (wG w b D1 D2 f la SV SS p q r) := wg_set hb (by omega)
theorem ws_3 (hb : b = 66 + D1.length) : (wB (wG w b D1 D2 F la SV SS p q r)).set (b + 3) (.inl (5, 6, .inr (.inr (.inr (.inr la'))))) = wB (wG w b D1 D2 F la' SV SS p q r) := wg_set hb (by omega)
theorem ws_4 (hb : b = 66 + D1.length) : (wB (wG w b D1 D2 F la SV SS p q r)).set (b + 4) (.inl (0, 8, .inl f)) = wB (wG w b D1 D2 F la f SS p q r) := wg_set hb (by omega)
theorem ws_5 (hb : b = 66 + D1.length) : (wB (wG w b D1 D2 F la SV SS p q r)).set (b + 5) (.inl (0, 8, .inl f)) = wB (wG w b D1 D2 F la SV f p q r) := wg_set hb (by omega)
theorem gw_0 (hb : b = 66 + D1.length) : hv_step cm vk dv ft mc ms rt call (.getfield 900) (ls, .ref b :: st, wB (wG w b D1 D2 F la SV SS p q r), nc, ns) = hv_nx ls (.ref (b + 1) :: st) (wB (wG w b D1 D2 F la SV SS p q r)) nc ns := by simp [st_getfield, wg_0 hb]
theorem gw_1 (hb : b = 66 + D1.length) : hv_step cm vk dv ft mc ms rt call (.getfield 901) (ls, .ref b :: st, wB (wG w b D1 D2 F la SV SS p q r), nc, ns) = hv_nx ls (.ref (b + 3) :: st) (wB (wG w b D1 D2 F la SV SS p q r)) nc ns := by simp [st_getfield, wg_0 hb]
theorem gw_2 (hb : b = 66 + D1.length) : hv_step cm vk dv ft mc ms rt call (.getfield 902) (ls, .ref b :: st, wB (wG w b D1 D2 F la SV SS p q r), nc, ns) = hv_nx ls (.ref (b + 4) :: st) (wB (wG w b D1 D2 F la SV SS p q r)) nc ns := by simp [st_getfield, wg_0 hb]
theorem gw_3 (hb : b = 66 + D1.length) : hv_step cm vk dv ft mc ms rt call (.getfield 903) (ls, .ref b :: st, wB (wG w b D1 D2 F la SV SS p q r), nc, ns) = hv_nx ls (.ref (b + 5) :: st) (wB (wG w b D1 D2 F la SV SS p q r)) nc ns := by simp [st_getfield, wg_0 hb]
theorem gw_4 (hb : b = 66 + D1.length) : hv_step cm vk dv ft mc ms rt call (.getfield 904) (ls, .ref b :: st, wB (wG w b D1 D2 F la SV SS p q r), nc, ns) = hv_nx ls (.int p :: st) (wB (wG w b D1 D2 F la SV SS p q r)) nc ns := by simp [st_getfield, wg_0 hb]
theorem gw_5 (hb : b = 66 + D1.length) : hv_step cm vk dv ft mc ms rt call (.getfield 905) (ls, .ref b :: st, wB (wG w b D1 D2 F la SV SS p q r), nc, ns) = hv_nx ls (.int q :: st) (wB (wG w b D1 D2 F la SV SS p q r)) nc ns := by simp [st_getfield, wg_0 hb]
theorem gw_6 (hb : b = 66 + D1.length) : hv_step cm vk dv ft mc ms rt call (.getfield 906) (ls, .ref b :: st, wB (wG w b D1 D2 F la SV SS p q r), nc, ns) = hv_nx ls (.int r :: st) (wB (wG w b D1 D2 F la SV SS p q r)) nc ns := by simp [st_getfield, wg_0 hb]
theorem gw_h (hb : b = 66 + D1.length) : hv_step cm vk dv ft mc ms rt call (.getfield 300) (ls, .ref (b + 1) :: st, wB (wG w b D1 D2 F la SV SS p q r), nc, ns) = hv_nx ls (.ref (b + 2) :: st) (wB (wG w b D1 D2 F la SV SS p q r)) nc ns := by simp [st_getfield, wg_1 hb]
theorem pw_4 (hb : b = 66 + D1.length) : hv_step cm vk dv hv_ft mc ms rt call (.putfield 904) (ls, .int x :: .ref b :: st, wB (wG w b D1 D2 F la SV SS p q r), nc, ns) = hv_nx ls st (wB (wG w b D1 D2 F la SV SS x q r)) nc ns := by simp [st_putfield, wg_0 hb, hv_ft, tyX9, k_fi32, ws_0 hb]
theorem pw_5 (hb : b = 66 + D1.length) : hv_step cm vk dv hv_ft mc ms rt call (.putfield 905) (ls, .int x :: .ref b :: st, wB (wG w b D1 D2 F la SV SS p q r), nc, ns) = hv_nx ls st (wB (wG w b D1 D2 F la SV SS p x r)) nc ns := by simp [st_putfield, wg_0 hb, hv_ft, tyX9, k_fi32, ws_0 hb]
theorem pw_6 (hb : b = 66 + D1.length) : hv_step cm vk dv hv_ft mc ms rt call (.putfield 906) (ls, .int x :: .ref b :: st, wB (wG w b D1 D2 F la SV SS p q r), nc, ns) = hv_nx ls st (wB (wG w b D1 D2 F la SV SS p q x)) nc ns := by simp [st_putfield, wg_0 hb, hv_ft, tyX9, k_fi32, ws_0 hb]
theorem rcw_b {as : List Value} (hb : b = 66 + D1.length) : hv_rc (some 9) (.ref b :: as) (wB (wG w b D1 D2 F la SV SS p q r)) = true := rc_of (wg_0 hb)
theorem rcw_h {as : List Value} (hb : b = 66 + D1.length) : hv_rc (some 3) (.ref (b + 1) :: as) (wB (wG w b D1 D2 F la SV SS p q r)) = true := rc_of (wg_1 hb)
theorem wg_ar : w_ar (wG w b D1 D2 F la SV SS p q r) = w_ar w := rfl
theorem wg_sc : w_sc (wG w b D1 D2 F la SV SS p q r) = w_sc w := rfl
theorem wg_la : w_la (wG w b D1 D2 F la SV SS p q r) = w_la w := rfl
/-- other cells -/
theorem wg_o {c : Nat} {F2 SV2 SS2 : Nat → Int32} {la2 : Nat → Option Nat} {p2 q2 r2 : Int32} (hb : b = 66 + D1.length) (hc : 66 ≤ c) (h : ¬ (b ≤ c ∧ c < b + 6)) : (wB (wG w b D1 D2 F la SV SS p q r))[c]? = (wB (wG w b D1 D2 F2 la2 SV2 SS2 p2 q2 r2))[c]? := by
  have hL : ∀ F la SV SS p q r, (imL b F la SV SS p q r).length = 6 := fun _ _ _ _ _ _ _ => rfl
  rw [wG, wG, wr_dy hc, wr_dy hc, g_dy_dy, g_dy_dy]
  by_cases q1 : c - 66 < D1.length
  · rw [List.getElem?_append_left q1, List.getElem?_append_left q1]
  · rw [List.getElem?_append_right (by omega), List.getElem?_append_right (by rw [hL]; omega), List.getElem?_append_right (by omega), List.getElem?_append_right (by rw [hL]; omega), hL, hL]
end WG
