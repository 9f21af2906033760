/-! Rows of steps that mean a sum, a test. -/
section SG
variable {S E : Nat → Int32} {nw len : Nat}
theorem mre_trans : ∀ n x y m z, mre S E nw len n x y → mre S E nw len m y z → mre S E nw len (n + m) x z
  | 0, x, y, m, z, h1, h2 => by cases h1; rw [Nat.zero_add]; exact h2
  | n + 1, x, y, m, z, ⟨u, h0, h1⟩, h2 => by rw [Nat.succ_add]; exact ⟨u, h0, mre_trans n u y m z h1 h2⟩
theorem mre_1 {x y : mS} (h : mst S E nw len x y) : mre S E nw len 1 x y := ⟨y, h, rfl⟩
/-- from i on, np parts deep, a's value comes onto the stack, at j -/
def seg (S : Nat → Int32) (nw len i j np : Nat) (a : vD) : Prop := ∀ (E : Nat → Int32) (t : Nat) (s : Nat → Int32), t + np ≤ 50 → match a E with
  | none => ∃ n z, mre S E nw len n (i, t, s) z ∧ mbr S len z
  | some x => ∃ n s', mre S E nw len n (i, t, s) (j, t + 1, s') ∧ s' t = x ∧ ∀ q, q < t → s' q = s q
def segT (S : Nat → Int32) (nw len i j np : Nat) (a : vT) : Prop := seg S nw len i j np (fun E => (a E).map b2i)
theorem seg_mono {i j np np' : Nat} {a : vD} (h : seg S nw len i j np a) (hn : np ≤ np') : seg S nw len i j np' a := fun E t s ht => h E t s (by omega)
theorem seg_num {i v : Nat} (hi : i < len) (hv : v < 1024) (hS : S i = nI (1024 + v)) : seg S nw len i (i + 1) 1 (fun _ => some (nI v)) := by
  intro E t s ht
  refine ⟨1, upd s t (nI v), mre_1 ⟨hi, Or.inl ⟨v, hv, hS, by show t < 50; omega, rfl⟩⟩, by simp [upd], fun q hq => ?_⟩
  have : ¬ q = t := by omega
  simp [upd, this]
theorem seg_word {i k : Nat} (hi : i < len) (hk : k < nw) (hS : S i = nI (2048 + k)) : seg S nw len i (i + 1) 1 (fun E => some (E k)) := by
  intro E t s ht
  refine ⟨1, upd s t (E k), mre_1 ⟨hi, Or.inr (Or.inl ⟨k, hk, hS, by show t < 50; omega, rfl⟩)⟩, by simp [upd], fun q hq => ?_⟩
  have : ¬ q = t := by omega
  simp [upd, this]
/-- two operands and their step -/
theorem seg_op {i j k n1 n2 kd : Nat} {a b c : vD} (h1 : seg S nw len i j n1 a) (h2 : seg S nw len j k n2 b) (hn : 1 ≤ n1) (hk : k < len) (hkd : 3 ≤ kd) (hkd2 : kd ≤ 10) (hS : S k = nI (1024 * kd)) (hc : ∀ E, c E = (match a E with
    | none => none
    | some x => match b E with
      | none => none
      | some y => m_op kd x y)) (hn2 : 1 ≤ n2) : seg S nw len i (k + 1) (n1 + n2) c := by
  intro E t s ht
  rw [hc E]
  have g1 := h1 E t s (by omega)
  cases ha : a E with
  | none => rw [ha] at g1; exact g1
  | some x =>
    rw [ha] at g1
    obtain ⟨m1, s1, r1, v1, u1⟩ := g1
    have g2 := h2 E (t + 1) s1 (by omega)
    simp only []
    cases hb : b E with
    | none =>
      rw [hb] at g2
      obtain ⟨m2, z, r2, b2⟩ := g2
      exact ⟨m1 + m2, z, mre_trans _ _ _ _ _ r1 r2, b2⟩
    | some y =>
      rw [hb] at g2
      obtain ⟨m2, s2, r2, v2, u2⟩ := g2
      have v3 : s2 t = x := by rw [u2 t (by omega), v1]
      have r3 := mre_trans _ _ _ _ _ r1 r2
      simp only []
      cases ho : m_op kd x y with
      | none => exact ⟨m1 + m2, _, r3, hk, kd, t, hkd, hkd2, hS, by omega, rfl, by show m_op kd (s2 t) (s2 (t + 1)) = none; rw [v3, v2]; exact ho⟩
      | some r =>
        refine ⟨m1 + m2 + 1, upd s2 t r, mre_trans _ _ _ _ _ r3 (mre_1 ⟨hk, Or.inr (Or.inr (Or.inl ⟨kd, t, r, hkd, hkd2, hS, by omega, rfl, by show m_op kd (s2 t) (s2 (t + 1)) = some r; rw [v3, v2]; exact ho, rfl⟩))⟩), by simp [upd], fun q hq => ?_⟩
        have : ¬ q = t := by omega
        simp only [upd, if_neg this]
        rw [u2 q (by omega), u1 q hq]
theorem segT_not {i j np : Nat} {a : vT} (h : segT S nw len i j np a) (hn : 1 ≤ np) (hj : j < len) (hS : S j = nI 11264) : segT S nw len i (j + 1) np (v_not true a) := by
  intro E t s ht
  have g := h E t s ht
  dsimp only at g
  simp only [v_not]
  match ha : a E with
  | none => rw [ha] at g; exact g
  | some y =>
    rw [ha] at g
    obtain ⟨n, s1, r1, v1, u1⟩ := g
    refine ⟨n + 1, upd s1 t (1 - s1 t), mre_trans _ _ _ _ _ r1 (mre_1 ⟨hj, Or.inr (Or.inr (Or.inr (Or.inl ⟨t, hS, by omega, rfl, rfl⟩)))⟩), ?_, fun q hq => ?_⟩
    · simp only [upd, if_pos]
      rw [v1]
      cases y <;> rfl
    · have : ¬ q = t := by omega
      simp only [upd, if_neg this]
      exact u1 q hq
theorem segT_and {i j k n1 n2 : Nat} {a b : vT} (h1 : segT S nw len i j n1 a) (h2 : segT S nw len (j + 1) k n2 b) (hn : 1 ≤ n1) (hj : j < len) (hk : j < k) (hk2 : k < 1024) (hS : S j = nI (12288 + k)) : segT S nw len i k (n1 + n2) (v_and a b) := by
  intro E t s ht
  have g1 := h1 E t s (by omega)
  dsimp only at g1
  simp only [v_and]
  match ha : a E with
  | none => rw [ha] at g1; exact g1
  | some false =>
    rw [ha] at g1
    obtain ⟨m1, s1, r1, v1, u1⟩ := g1
    exact ⟨m1 + 1, s1, mre_trans _ _ _ _ _ r1 (mre_1 ⟨hj, Or.inr (Or.inr (Or.inr (Or.inr (Or.inl ⟨k, t, hS, hk2, by omega, rfl, Or.inl ⟨v1, hk, rfl⟩⟩))))⟩), v1, u1⟩
  | some true =>
    rw [ha] at g1
    obtain ⟨m1, s1, r1, v1, u1⟩ := g1
    have ne : ¬ s1 t = 0 := by rw [v1]; decide
    have r2 := mre_trans _ _ _ _ _ r1 (mre_1 (x := (j, t + 1, s1)) (y := (j + 1, t, s1)) ⟨hj, Or.inr (Or.inr (Or.inr (Or.inr (Or.inl ⟨k, t, hS, hk2, by omega, rfl, Or.inr ⟨ne, rfl⟩⟩))))⟩)
    have g2 := h2 E t s1 (by omega)
    dsimp only at g2
    match hb : b E with
    | none =>
      rw [hb] at g2
      obtain ⟨m2, z, r3, b3⟩ := g2
      exact ⟨_, z, mre_trans _ _ _ _ _ r2 r3, b3⟩
    | some y =>
      rw [hb] at g2
      obtain ⟨m2, s2, r3, v3, u3⟩ := g2
      exact ⟨_, s2, mre_trans _ _ _ _ _ r2 r3, v3, fun q hq => by rw [u3 q hq, u1 q hq]⟩
theorem segT_or {i j k n1 n2 : Nat} {a b : vT} (h1 : segT S nw len i j n1 a) (h2 : segT S nw len (j + 1) k n2 b) (hn : 1 ≤ n1) (hj : j < len) (hk : j < k) (hk2 : k < 1024) (hS : S j = nI (13312 + k)) : segT S nw len i k (n1 + n2) (v_or a b) := by
  intro E t s ht
  have g1 := h1 E t s (by omega)
  dsimp only at g1
  simp only [v_or]
  match ha : a E with
  | none => rw [ha] at g1; exact g1
  | some true =>
    rw [ha] at g1
    obtain ⟨m1, s1, r1, v1, u1⟩ := g1
    have ne : ¬ s1 t = 0 := by rw [v1]; decide
    exact ⟨m1 + 1, s1, mre_trans _ _ _ _ _ r1 (mre_1 ⟨hj, Or.inr (Or.inr (Or.inr (Or.inr (Or.inr ⟨k, t, hS, hk2, by omega, rfl, Or.inl ⟨ne, hk, rfl⟩⟩))))⟩), v1, u1⟩
  | some false =>
    rw [ha] at g1
    obtain ⟨m1, s1, r1, v1, u1⟩ := g1
    have r2 := mre_trans _ _ _ _ _ r1 (mre_1 (x := (j, t + 1, s1)) (y := (j + 1, t, s1)) ⟨hj, Or.inr (Or.inr (Or.inr (Or.inr (Or.inr ⟨k, t, hS, hk2, by omega, rfl, Or.inr ⟨v1, rfl⟩⟩))))⟩)
    have g2 := h2 E t s1 (by omega)
    dsimp only at g2
    match hb : b E with
    | none =>
      rw [hb] at g2
      obtain ⟨m2, z, r3, b3⟩ := g2
      exact ⟨_, z, mre_trans _ _ _ _ _ r2 r3, b3⟩
    | some y =>
      rw [hb] at g2
      obtain ⟨m2, s2, r3, v3, u3⟩ := g2
      exact ⟨_, s2, mre_trans _ _ _ _ _ r2 r3, v3, fun q hq => by rw [u3 q hq, u1 q hq]⟩
end SG
