/-! The tokens of a text: codes and values, and that the class's reader goes over them. -/
def tcP (y : Nat → Nat) (n k : Nat) : Int32 := if k < tT y n then (if bSm (y (tS y n k)) = true then nI (wFind y (tS y n k) (tE y n k) wWs 1) else if bDg (y (tS y n k)) = true then 50 else nI (100 + y (tS y n k))) else 0
def tvP (y : Nat → Nat) (n k : Nat) : Int32 := if k < tT y n ∧ bDg (y (tS y n k)) = true then nI (tvM y (tS y n k) (tE y n k - tS y n k)) else 0
section VTT
variable {y : Nat → Nat} {n : Nat}
theorem bSD {u : Nat} (h : bSm u = true) : ¬ bDg u = true := by
  have := b_sm h
  intro q
  have := b_dg q
  omega
theorem tok_c {k : Nat} (hk : k ≤ tT y n) : (k = tT y n ∧ tS y n k = n ∧ kdP y n (tS y n k) = -1 ∧ tcP y n k = 0) ∨ (k < tT y n ∧ tS y n k < n ∧ bSm (y (tS y n k)) = true ∧ kdP y n (tS y n k) = -2 ∧ tcP y n k = nI (wFind y (tS y n k) (tE y n k) wWs 1)) ∨ (k < tT y n ∧ tS y n k < n ∧ ¬ bSm (y (tS y n k)) = true ∧ bDg (y (tS y n k)) = true ∧ kdP y n (tS y n k) = -3 ∧ tcP y n k = 50) ∨ (k < tT y n ∧ tS y n k < n ∧ ¬ bSm (y (tS y n k)) = true ∧ ¬ bDg (y (tS y n k)) = true ∧ kdP y n (tS y n k) = nI (y (tS y n k)) ∧ tcP y n k = nI (100 + y (tS y n k))) := by
  by_cases h : k < tT y n
  · have hs := tT_lt h
    by_cases h1 : bSm (y (tS y n k)) = true
    · exact Or.inr (Or.inl ⟨h, hs, h1, by rw [kdP, if_pos hs, if_pos h1], by rw [tcP, if_pos h, if_pos h1]⟩)
    · by_cases h2 : bDg (y (tS y n k)) = true
      · exact Or.inr (Or.inr (Or.inl ⟨h, hs, h1, h2, by rw [kdP, if_pos hs, if_neg h1, if_pos h2], by rw [tcP, if_pos h, if_neg h1, if_pos h2]⟩))
      · exact Or.inr (Or.inr (Or.inr ⟨h, hs, h1, h2, by rw [kdP, if_pos hs, if_neg h1, if_neg h2], by rw [tcP, if_pos h, if_neg h1, if_neg h2]⟩))
  · have he : k = tT y n := by omega
    have hs : tS y n k = n := by rw [he]; exact tT_eq
    exact Or.inl ⟨he, hs, by rw [kdP, if_neg (by omega)], by rw [tcP, if_neg h]⟩
theorem wIdx_no {x : Int32} : ∀ (L : List Int32) (i : Nat), (∀ c ∈ L, x ≠ c) → wIdx x L i = -1
  | [], _, _ => rfl
  | c :: r, i, h => by
    rw [wIdx, if_neg (h c (List.mem_cons_self ..)), wIdx_no r (i + 1) (fun c hc => h c (List.mem_cons_of_mem _ hc))]
theorem neg_ne {x : Int32} {m : Nat} (hx : x.toInt < 0) (hm : m < 2 ^ 31) : ¬ x = nI m := fun q => by
  rw [q, nI_toInt hm] at hx
  omega
theorem m2_ne {m : Nat} (hm : m < 2 ^ 31) : ¬ (-2 : Int32) = nI m := neg_ne (by decide) hm
theorem m3_ne {m : Nat} (hm : m < 2 ^ 31) : ¬ (-3 : Int32) = nI m := neg_ne (by decide) hm
theorem m1_ne {m : Nat} (hm : m < 2 ^ 31) : ¬ (-1 : Int32) = nI m := neg_ne (by decide) hm
theorem vt_of {w : wW} {o : Bool} (h : vTp w y n) (ho : w_sc w 3503 = b2i o) : VT w o (tT y n) (tcP y n) (tvP y n) (tS y n) (tE y n) (fun k => kdP y n (tS y n k)) (fun k => nI (tvV y (tS y n k) (tE y n k - tS y n k))) := by
  have h256 := h.2.2.2
  have h400 := h.1
  refine ⟨Nat.le_trans tT_le h400, fun k hk => by rw [tcP, if_neg (by omega)], ho, ?_, ?_, ?_, ?_⟩
  · intro d k nn p cl ln M S hd hk
    have := v_stepR (a := nI (tS y n k)) (k := kdP y n (tS y n k)) (nn := nn) (p := p) (cl := cl) (ln := ln) (M := M) (S := S) h (d := d) (i := tE y n k) hd (tEnd_n (tS_n k))
    exact this
  · intro d j k nn p cl ln M S hd hj hk
    have g := wTx_at hj
    have hs := tS_n (y := y) (n := n) k
    have he : tE y n k ≤ n := tEnd_n hs
    have hno : ∀ x : Int32, (∀ m : Nat, 1 ≤ m → m ≤ 27 → ¬ x = nI m) → wIdx x (wLst j) 0 = -1 := fun x hx => wIdx_no _ _ (fun c hc => by
      have q := g.2.2.2.2.2 c hc
      rw [← q.2.2.1]
      exact hx _ q.1 q.2.1)
    rcases tok_c (y := y) (n := n) hk with ⟨_, _, hkd, htc⟩ | ⟨_, _, _, hkd, htc⟩ | ⟨_, _, _, _, hkd, htc⟩ | ⟨_, _, _, _, hkd, htc⟩
    · have e := v_placeIn0 (w := w) (a := nI (tS y n k)) (b := nI (tE y n k)) (k := kdP y n (tS y n k)) (nn := nn) (p := p) (cl := cl) (ln := ln) (M := M) (S := S) (d := d) (j := j) (by omega) (by rw [hkd]; decide)
      rw [htc, hno 0 (fun m h1 h2 q => by rw [a_0eq (by omega)] at q; omega)]
      exact e
    · have e := v_placeIn (nn := nn) (p := p) (cl := cl) (ln := ln) (M := M) (S := S) h (d := d) (a := tS y n k) (b := tE y n k) (j := j) hd (by omega) (by omega) hj
      rw [htc, wIdx_pos _ _ (fun c hc => by
        have q := g.2.2.2.2.2 c hc
        exact ⟨c.toNatClampNeg - 1, by omega, by rw [Nat.sub_add_cancel q.1]; exact q.2.2.1.symm⟩)]
      rw [← hkd] at e
      exact e
    · have e := v_placeIn0 (w := w) (a := nI (tS y n k)) (b := nI (tE y n k)) (k := kdP y n (tS y n k)) (nn := nn) (p := p) (cl := cl) (ln := ln) (M := M) (S := S) (d := d) (j := j) (by omega) (by rw [hkd]; decide)
      rw [htc, hno 50 (fun m h1 h2 q => by rw [show (50 : Int32) = nI 50 from rfl, a_eq (by omega) (by omega)] at q; omega)]
      exact e
    · have hu := h256 (tS y n k)
      have e := v_placeIn0 (w := w) (a := nI (tS y n k)) (b := nI (tE y n k)) (k := kdP y n (tS y n k)) (nn := nn) (p := p) (cl := cl) (ln := ln) (M := M) (S := S) (d := d) (j := j) (by omega) (by rw [hkd]; exact fun q => m2_ne (by omega) q.symm)
      rw [htc, hno _ (fun m h1 h2 q => by rw [a_eq (by omega) (by omega)] at q; omega)]
      exact e
  · intro k hk
    have e50 : (50 : Int32) = nI 50 := rfl
    have e0 : (0 : Int32) = nI 0 := rfl
    have hu := h256 (tS y n k)
    have h27 := wFind_27 (y := y) (a := tS y n k) (b := tE y n k)
    have hT : ∀ {q : Prop}, k < tT y n → (q ↔ k = tT y n) = (q ↔ False) := fun hq => by rw [show (k = tT y n) = False from eq_false (by omega)]
    simp only []
    rcases tok_c (y := y) (n := n) hk with ⟨hl, _, hkd, htc⟩ | ⟨hl, _, _, hkd, htc⟩ | ⟨hl, _, _, _, hkd, htc⟩ | ⟨hl, _, _, _, hkd, htc⟩
    · rw [hkd, htc]
      refine ⟨fun c hc => ⟨fun q => absurd q (m1_ne (by omega)), fun q => ?_⟩, by decide, fun _ => hl, fun _ => rfl⟩
      rw [e0, a_eq (by omega) (by omega)] at q
      omega
    · rw [hkd, htc]
      refine ⟨fun c hc => ⟨fun q => absurd q (m2_ne (by omega)), fun q => ?_⟩, ⟨fun q => absurd q (by decide), fun q => ?_⟩, fun q => absurd q (by decide), fun q => by omega⟩
      · rw [a_eq (by omega) (by omega)] at q
        omega
      · rw [e50, a_eq (by omega) (by omega)] at q
        omega
    · rw [hkd, htc]
      refine ⟨fun c hc => ⟨fun q => absurd q (m3_ne (by omega)), fun q => ?_⟩, ⟨fun _ => rfl, fun _ => rfl⟩, fun q => absurd q (by decide), fun q => by omega⟩
      rw [e50, a_eq (by omega) (by omega)] at q
      omega
    · rw [hkd, htc]
      refine ⟨fun c hc => ?_, ⟨fun q => absurd q.symm (m3_ne (by omega)), fun q => ?_⟩, fun q => absurd q.symm (m1_ne (by omega)), fun q => by omega⟩
      · rw [a_eq (by omega) (by omega), a_eq (by omega) (by omega)]
        omega
      · rw [e50, a_eq (by omega) (by omega)] at q
        omega
  · intro k hk htc
    have e50 : (50 : Int32) = nI 50 := rfl
    have hu := h256 (tS y n k)
    have h27 := wFind_27 (y := y) (a := tS y n k) (b := tE y n k)
    have hdg : ¬ bSm (y (tS y n k)) = true ∧ bDg (y (tS y n k)) = true := by
      rcases tok_c (y := y) (n := n) (Nat.le_of_lt hk) with ⟨hl, _, _, _⟩ | ⟨_, _, _, _, ht⟩ | ⟨_, _, h1, h2, _⟩ | ⟨_, _, _, _, _, ht⟩
      · omega
      · rw [ht, e50, a_eq (by omega) (by omega)] at htc
        omega
      · exact ⟨h1, h2⟩
      · rw [ht, e50, a_eq (by omega) (by omega)] at htc
        omega
    have hs := tT_lt hk
    have he : tE y n k = tRun bDg y n (tS y n k) := by rw [tE, tEnd, if_pos hs, if_neg hdg.1, if_pos hdg.2]
    have hr := tv_rel (y := y) (tS y n k) (tE y n k - tS y n k) (fun i hi => by
      rw [he] at hi
      exact tRun_in (n := n) (i := tS y n k) (by omega) (by omega))
    exact ⟨_, _, rfl, by rw [tvP, if_pos ⟨hk, hdg.2⟩], hr.1, by omega, hr.2.2⟩
end VTT
