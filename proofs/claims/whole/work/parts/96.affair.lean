/-! AN AFFAIR: the book, the two, the ladies, the codes, the mended back clauses -/
abbrev EV : Type := BK × (Nat × Nat × Nat) × (CD × CD) × Nat
def v_B (E : EV) : BK := E.1
def v_p (E : EV) (k : Nat) : Nat := if k = 0 then E.2.1.1 else E.2.1.2.1
def v_d (E : EV) : Nat := E.2.1.2.2
def v_c (E : EV) (k : Nat) : CD := if k = 0 then E.2.2.1.1 else E.2.2.1.2
def v_m (E : EV) : Nat := E.2.2.2
def v_h (E : EV) : Nat := if c_h (v_c E 1) < c_h (v_c E 0) then c_h (v_c E 1) else c_h (v_c E 0)
/-- what the words stand for, of side k -/
def v_g (E : EV) (k owed mine gone : Nat) : Nat → Int32 := g_w (v_B E) (v_p E k) (v_p E (1 - k)) (v_d E) owed mine gone
def v_s (E : EV) (s : ST) : Nat → Int32 := v_g E (s_t s) (s_o s (1 - s_t s)) (s_o s (s_t s)) (v_h E - s_l s)
def v_ok (nc : Nat) (E : EV) : Prop := b_ok nc (v_B E) ∧ v_p E 0 < b_n (v_B E) ∧ v_p E 1 < b_n (v_B E) ∧ v_p E 0 ≠ v_p E 1 ∧ v_d E < 10 ∧ c_ok (v_c E 0) ∧ c_ok (v_c E 1) ∧ v_m E < 64
theorem v_ok.c {nc : Nat} {E : EV} (h : v_ok nc E) {k : Nat} (hk : k < 2) : c_ok (v_c E k) := by
  match k, hk with
  | 0, _ => exact h.2.2.2.2.2.1
  | 1, _ => exact h.2.2.2.2.2.2.1
theorem v_ok.p {nc : Nat} {E : EV} (h : v_ok nc E) {k : Nat} (hk : k < 2) : v_p E k < b_n (v_B E) := by
  match k, hk with
  | 0, _ => exact h.2.1
  | 1, _ => exact h.2.2.1
theorem v_h_le {nc : Nat} {E : EV} (h : v_ok nc E) : 0 < v_h E ∧ v_h E < 9 := by
  have h0 := (h.c (k := 0) (by decide))
  have h1 := (h.c (k := 1) (by decide))
  have a0 := h0.2.1
  have a1 := h1.2.1
  have b0 := h0.2.2.1
  have b1 := h1.2.2.1
  unfold v_h
  split <;> omega
/-- a state that can come in it -/
def v_w (E : EV) (s : ST) : Prop := s_ok s ∧ (s_e s = 0 → s_z s = 0 ∧ 0 < s_l s ∧ s_l s ≤ v_h E ∧ s_t s = (1 + v_h E - s_l s) % 2 ∧ (s_k s = 0 ∨ s_k s = 2 - s_t s))
/-- may a move be done -/
def v_can (E : EV) (s : ST) (m : Nat) : Bool := decide (s_e s = 0 ∧ m < 11 ∧ ((s_k s = 0 ∧ (m < 4 ∨ m = 10 ∨ (m < 8 ∧ 0 < s_o s (1 - s_t s)) ∨ (m = 8 ∧ c_a (v_c E (s_t s)) ≤ s_o s (s_t s)))) ∨ (s_k s ≠ 0 ∧ (m = 8 ∨ m = 9))))
theorem v_canI {E : EV} {s : ST} {m : Nat} : v_can E s m = true ↔ (s_e s = 0 ∧ m < 11 ∧ ((s_k s = 0 ∧ (m < 4 ∨ m = 10 ∨ (m < 8 ∧ 0 < s_o s (1 - s_t s)) ∨ (m = 8 ∧ c_a (v_c E (s_t s)) ≤ s_o s (s_t s)))) ∨ (s_k s ≠ 0 ∧ (m = 8 ∨ m = 9)))) := decide_eq_true_iff
/-- what is owed the other behind a move -/
def v_o (E : EV) (s : ST) (m : Nat) (n : Bool) : Nat :=
  if n = true ∧ m < 8 then (if m < 4 then min 15 (s_o s (1 - s_t s) + w_V (v_c E (1 - s_t s)) (v_s E s) (v_m E) m) else s_o s (1 - s_t s) - w_V (v_c E (1 - s_t s)) (v_s E s) (v_m E) m) else s_o s (1 - s_t s)
def v_L (E : EV) (a b : Nat) : Nat := (if c_m (v_c E 0) ≤ a then 1 else 0) + (if c_m (v_c E 1) ≤ b then 2 else 0)
/-- owed (a, b), asked k: what comes of it -/
def v_n (E : EV) (s : ST) (a b k : Nat) : ST :=
  if a = 0 ∧ b = 0 ∧ k = 0 then (0, 0, s_l s, 1 - s_t s, 0, 1, 0)
  else if s_l s ≤ 1 then (a, b, s_l s - 1, 1 - s_t s, k, 4, v_L E a b) else (a, b, s_l s - 1, 1 - s_t s, k, 0, 0)
/-- the state behind a move -/
def v_a (E : EV) (s : ST) (m : Nat) (n : Bool) : ST :=
  if s_k s = 0 then v_n E s (if s_t s = 0 then s_o s 0 else v_o E s m n) (if s_t s = 0 then v_o E s m n else s_o s 1) (if m = 8 then s_t s + 1 else 0)
  else if m = 8 then (s.1, s.2.1, s.2.2.1, s.2.2.2.1, s.2.2.2.2.1, 2, 0)
  else (s.1, s.2.1, s.2.2.1, s.2.2.2.1, s.2.2.2.2.1, 3, if w_R (v_c E (1 - s_t s)) (v_s E s) = 0 then 1 + s_t s else 0)
/-- the state behind the first slight -/
def v_1 (E : EV) (kind : Nat) (n : Bool) : ST := (0, if n then w_v (v_c E 1) (v_g E 0 0 0 0) kind else 0, v_h E, 1, 0, if (if n then w_v (v_c E 1) (v_g E 0 0 0 0) kind else 0) = 0 then 1 else 0, 0)
theorem w_v_lt {C : CD} (ok : c_ok C) (g : Nat → Int32) (s : Nat) : w_v C g s < 16 := by
  rw [← w_V0 ok g s]
  exact w_V_lt ok g 0 s
theorem s_okM {a b l t k e z : Nat} (h1 : a < 16) (h2 : b < 16) (h3 : l < 16) (h4 : t < 2) (h5 : k < 3) (h6 : e < 5) (h7 : z < 4) : s_ok (a, b, l, t, k, e, z) := ⟨h1, h2, h3, h4, h5, h6, h7⟩
theorem v_1w {nc : Nat} {E : EV} (h : v_ok nc E) (kind : Nat) (n : Bool) : v_w E (v_1 E kind n) := by
  have hh := v_h_le h
  have hw := w_v_lt (h.c (k := 1) (by decide)) (v_g E 0 0 0 0) kind
  have hx : (if n then w_v (v_c E 1) (v_g E 0 0 0 0) kind else 0) < 16 := by
    split
    · exact hw
    · decide
  refine ⟨?_, fun _ => ⟨rfl, hh.1, Nat.le_refl _, ?_, Or.inl rfl⟩⟩
  · unfold v_1
    generalize (if n then w_v (v_c E 1) (v_g E 0 0 0 0) kind else 0) = x at hx
    refine s_okM (by omega) hx (by omega) (by omega) (by omega) ?_ (by omega)
    split <;> omega
  · show 1 = (1 + v_h E - v_h E) % 2
    omega
theorem v_o_lt {nc : Nat} {E : EV} (h : v_ok nc E) {s : ST} (hs : s_ok s) (m : Nat) (n : Bool) : v_o E s m n < 16 := by
  have := s_ol hs (1 - s_t s)
  unfold v_o
  split
  · split
    · omega
    · omega
  · exact this
theorem v_L_lt (E : EV) (a b : Nat) : v_L E a b < 4 := by
  unfold v_L
  split <;> split <;> decide
theorem v_n_w {nc : Nat} {E : EV} (h : v_ok nc E) {s : ST} (hs : v_w E s) (h0 : s_e s = 0) {a b k : Nat} (ha : a < 16) (hb : b < 16) (hk : k = 0 ∨ k = s_t s + 1) : v_w E (v_n E s a b k) := by
  have hh := v_h_le h
  obtain ⟨ok, hw⟩ := hs
  obtain ⟨h1, h2, h3, h4, h5⟩ := hw h0
  have ht : s_t s < 2 := ok.2.2.2.1
  have hL := v_L_lt E a b
  unfold v_n
  split
  · refine ⟨?_, fun z => absurd z (show ¬ (1 = 0) by decide)⟩
    refine s_okM ?_ ?_ ?_ ?_ ?_ ?_ ?_ <;> omega
  · split
    · refine ⟨?_, fun z => absurd z (show ¬ (4 = 0) by decide)⟩
      refine s_okM ha hb ?_ ?_ ?_ ?_ hL <;> omega
    · refine ⟨?_, fun _ => ⟨rfl, ?_, ?_, ?_, ?_⟩⟩
      · refine s_okM ha hb ?_ ?_ ?_ ?_ ?_ <;> omega
      · show 0 < s_l s - 1
        omega
      · show s_l s - 1 ≤ v_h E
        omega
      · show 1 - s_t s = (1 + v_h E - (s_l s - 1)) % 2
        omega
      · show k = 0 ∨ k = 2 - (1 - s_t s)
        omega
theorem v_a_w {nc : Nat} {E : EV} (h : v_ok nc E) {s : ST} (hs : v_w E s) {m : Nat} (hm : v_can E s m = true) (n : Bool) : v_w E (v_a E s m n) := by
  have h0 := (v_canI.mp hm).1
  have ok := hs.1
  have ht : s_t s < 2 := ok.2.2.2.1
  have hv := v_o_lt h ok m n
  have a0 := s_ol ok 0
  have a1 := s_ol ok 1
  unfold v_a
  split
  · refine v_n_w h hs h0 ?_ ?_ ?_
    · split <;> omega
    · split <;> omega
    · split <;> omega
  · split
    · exact ⟨⟨ok.1, ok.2.1, ok.2.2.1, ok.2.2.2.1, ok.2.2.2.2.1, show 2 < 5 by decide, show 0 < 4 by decide⟩, fun z => absurd z (show ¬ (2 = 0) by decide)⟩
    · refine ⟨⟨ok.1, ok.2.1, ok.2.2.1, ok.2.2.2.1, ok.2.2.2.2.1, show 3 < 5 by decide, ?_⟩, fun z => absurd z (show ¬ (3 = 0) by decide)⟩
      show (if w_R (v_c E (1 - s_t s)) (v_s E s) = 0 then 1 + s_t s else 0) < 4
      split <;> omega
/-- a state that goes on is known by its place -/
theorem s_s_inj {nc : Nat} {E : EV} (h : v_ok nc E) {s u : ST} (hs : v_w E s) (hu : v_w E u) (es : s_e s = 0) (eu : s_e u = 0) (e : s_s s = s_s u) : s = u := by
  have hh := v_h_le h
  obtain ⟨a1, a2, a3, a4, a5, a6, a7⟩ := s
  obtain ⟨b1, b2, b3, b4, b5, b6, b7⟩ := u
  obtain ⟨ok, hw⟩ := hs
  obtain ⟨uk, uw⟩ := hu
  obtain ⟨h1, h2, h3, h4, h5⟩ := hw es
  obtain ⟨k1, k2, k3, k4, k5⟩ := uw eu
  have e9 : a1 + a2 * 2 ^ 4 + (if a5 = 0 then 0 else 256) + (a3 + 7) % 8 * 2 ^ 9 = b1 + b2 * 2 ^ 4 + (if b5 = 0 then 0 else 256) + (b3 + 7) % 8 * 2 ^ 9 := e
  simp only [s_ok, s_e, s_z, s_l, s_t, s_k] at ok uk es eu h1 h2 h3 h4 h5 k1 k2 k3 k4 k5
  subst es
  subst eu
  subst h1
  subst k1
  by_cases ca : a5 = 0
  · by_cases cb : b5 = 0
    · rw [if_pos ca, if_pos cb] at e9
      have : a3 = b3 ∧ a4 = b4 ∧ a5 = b5 ∧ a1 = b1 ∧ a2 = b2 := by omega
      obtain ⟨rfl, rfl, rfl, rfl, rfl⟩ := this
      rfl
    · rw [if_pos ca, if_neg cb] at e9
      omega
  · by_cases cb : b5 = 0
    · rw [if_neg ca, if_pos cb] at e9
      omega
    · rw [if_neg ca, if_neg cb] at e9
      have : a3 = b3 ∧ a4 = b4 ∧ a5 = b5 ∧ a1 = b1 ∧ a2 = b2 := by omega
      obtain ⟨rfl, rfl, rfl, rfl, rfl⟩ := this
      rfl
