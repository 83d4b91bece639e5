/-! GAME, ENDS, WAYS, BRIEF: what they are -/
/-- what an outcome is worth for h: 0 the best -/
def u_w (u h : Nat) : Nat := 4 * (u / 2 ^ h % 2) + 2 * (if u = 8 then 1 else 0) + u / 2 ^ (1 - h) % 2
theorem u_w_lt (u h : Nat) : u_w u h < 8 := by
  have h1 : u / 2 ^ h % 2 < 2 := Nat.mod_lt _ (by decide)
  have h2 : u / 2 ^ (1 - h) % 2 < 2 := Nat.mod_lt _ (by decide)
  unfold u_w
  split <;> omega
/-- the first best of the moves that can be done -/
def g_b (p : Nat → Bool) (f : Nat → Nat) (h : Nat) : Nat → Option (Nat × Nat)
  | 0 => none
  | m + 1 => if p m then (match g_b p f h m with
      | none => some (m, f m)
      | some (k, u) => if u_w (f m) h < u_w u h then some (m, f m) else some (k, u)) else g_b p f h m
def g_d (x : Option (Nat × Nat)) : Nat × Nat := match x with
  | none => (0, 0)
  | some y => y
def g_n (E : EV) : Nat → ST → Nat × Nat
  | 0, s => (0, s_u s)
  | n + 1, s => if s_e s = 0 then g_d (g_b (v_can E s) (fun m => (g_n E n (v_a E s m true)).2) (s_t s) 11) else (0, s_u s)
/-- the move and the outcome -/
def v_G (E : EV) (s : ST) : Nat × Nat := g_n E (s_l s) s
theorem g_n_e {E : EV} {s : ST} (h : ¬ s_e s = 0) : ∀ n, g_n E n s = (0, s_u s) := by
  intro n
  cases n with
  | zero => rfl
  | succ n => exact if_neg h
theorem v_G_e {E : EV} {s : ST} (h : ¬ s_e s = 0) : v_G E s = (0, s_u s) := g_n_e h _
theorem g_n_G {E : EV} {s : ST} {n : Nat} (h : s_e s = 0 → s_l s = n) : g_n E n s = v_G E s := by
  by_cases c : s_e s = 0
  · rw [← h c]
    rfl
  · rw [g_n_e c, v_G_e c]
theorem v_G_s {E : EV} {s : ST} (h0 : s_e s = 0) (hl : 0 < s_l s) : v_G E s = g_d (g_b (v_can E s) (fun m => (v_G E (v_a E s m true)).2) (s_t s) 11) := by
  unfold v_G
  obtain ⟨l, hl2⟩ : ∃ l, s_l s = l + 1 := ⟨s_l s - 1, by omega⟩
  rw [hl2, g_n, if_pos h0]
  congr 2
  funext m
  rw [g_n_G (fun z => by rw [v_a_l z, hl2]; rfl)]
  rfl
/-- outcomes that come behind a move -/
def u_ok (u : Nat) : Prop := u < 20 ∧ (u / 4 = 2 → u = 8)
theorem v_a_u {nc : Nat} {E : EV} (h : v_ok nc E) {s : ST} (hs : v_w E s) {m : Nat} (hc : v_can E s m = true) (n : Bool) (he : ¬ s_e (v_a E s m n) = 0) : u_ok (s_u (v_a E s m n)) := by
  have hw := (v_a_w h hs hc n).1
  have h1 : s_e (v_a E s m n) < 5 := hw.2.2.2.2.2.1
  have h2 : s_z (v_a E s m n) < 4 := hw.2.2.2.2.2.2
  have h3 : s_e (v_a E s m n) = 2 → s_z (v_a E s m n) = 0 := fun z => by
    unfold v_a at z ⊢
    by_cases c : s_k s = 0
    · rw [if_pos c] at z ⊢
      generalize (if s_t s = 0 then s_o s 0 else v_o E s m n) = a at z ⊢
      generalize (if s_t s = 0 then v_o E s m n else s_o s 1) = b at z ⊢
      generalize (if m = 8 then s_t s + 1 else 0) = k at z ⊢
      unfold v_n at z ⊢
      by_cases c1 : a = 0 ∧ b = 0 ∧ k = 0
      · rw [if_pos c1]
        rfl
      · rw [if_neg c1] at z ⊢
        by_cases c2 : s_l s ≤ 1
        · rw [if_pos c2] at z
          exact absurd z (show ¬ (4 = 2) by decide)
        · rw [if_neg c2]
          rfl
    · rw [if_neg c] at z ⊢
      by_cases c2 : m = 8
      · rw [if_pos c2]
        rfl
      · rw [if_neg c2] at z
        exact absurd z (show ¬ (3 = 2) by decide)
  unfold s_u u_ok
  refine ⟨by omega, fun z => ?_⟩
  have := h3 (by omega)
  omega
theorem g_b_in {p : Nat → Bool} {f : Nat → Nat} {h : Nat} : ∀ {n k u : Nat}, g_b p f h n = some (k, u) → k < n ∧ p k = true ∧ u = f k := by
  intro n
  induction n with
  | zero => intro k u z; cases z
  | succ n ih =>
    intro k u z
    unfold g_b at z
    by_cases c : p n = true
    · rw [if_pos c] at z
      cases e : g_b p f h n with
      | none =>
        rw [e] at z
        cases z
        exact ⟨Nat.lt_succ_self _, c, rfl⟩
      | some x =>
        obtain ⟨k2, u2⟩ := x
        rw [e] at z
        have hi := ih e
        have z : (if u_w (f n) h < u_w u2 h then some (n, f n) else some (k2, u2)) = some (k, u) := z
        by_cases c2 : u_w (f n) h < u_w u2 h
        · rw [if_pos c2] at z
          cases z
          exact ⟨Nat.lt_succ_self _, c, rfl⟩
        · rw [if_neg c2] at z
          cases z
          exact ⟨by omega, hi.2⟩
    · rw [if_neg c] at z
      have hi := ih z
      exact ⟨by omega, hi.2⟩
theorem g_b_some {p : Nat → Bool} {f : Nat → Nat} {h k : Nat} (hp : p k = true) : ∀ {n : Nat}, k < n → ∃ x, g_b p f h n = some x := by
  intro n
  induction n with
  | zero => intro z; omega
  | succ n ih =>
    intro z
    unfold g_b
    by_cases c : p n = true
    · rw [if_pos c]
      cases g_b p f h n with
      | none => exact ⟨_, rfl⟩
      | some x =>
        obtain ⟨k2, u2⟩ := x
        simp only []
        by_cases c2 : u_w (f n) h < u_w u2 h
        · rw [if_pos c2]; exact ⟨_, rfl⟩
        · rw [if_neg c2]; exact ⟨_, rfl⟩
    · rw [if_neg c]
      have e : k ≠ n := fun e => c (by rw [← e]; exact hp)
      exact ih (by omega)
/-- some move can be done -/
theorem v_can_some {E : EV} {s : ST} (h0 : s_e s = 0) : ∃ m, m < 11 ∧ v_can E s m = true := by
  by_cases c : s_k s = 0
  · exact ⟨10, by decide, v_canI.mpr ⟨h0, by decide, Or.inl ⟨c, Or.inr (Or.inl rfl)⟩⟩⟩
  · exact ⟨9, by decide, v_canI.mpr ⟨h0, by decide, Or.inr ⟨c, Or.inr rfl⟩⟩⟩
theorem v_G_b {E : EV} {s : ST} (h0 : s_e s = 0) (hl : 0 < s_l s) : g_b (v_can E s) (fun m => (v_G E (v_a E s m true)).2) (s_t s) 11 = some (v_G E s) := by
  obtain ⟨m, hm, hc⟩ := v_can_some (E := E) h0
  obtain ⟨x, e⟩ := g_b_some (f := fun m => (v_G E (v_a E s m true)).2) (h := s_t s) hc hm
  rw [v_G_s h0 hl, e]
  rfl
/-- the game's move and outcome are such -/
theorem v_G_ok {nc : Nat} {E : EV} (h : v_ok nc E) : ∀ (l : Nat) (s : ST), s_l s ≤ l → v_w E s → s_e s = 0 → (v_G E s).1 < 11 ∧ v_can E s (v_G E s).1 = true ∧ u_ok (v_G E s).2 := by
  intro l
  induction l with
  | zero =>
    intro s hl hs h0
    have := (hs.2 h0).2.1
    omega
  | succ l ih =>
    intro s hl hs h0
    have hl0 := (hs.2 h0).2.1
    have e := v_G_b (E := E) h0 hl0
    obtain ⟨g1, g2, g3⟩ := g_b_in (k := (v_G E s).1) (u := (v_G E s).2) e
    refine ⟨g1, g2, ?_⟩
    rw [g3]
    by_cases c : s_e (v_a E s (v_G E s).1 true) = 0
    · exact (ih _ (by rw [v_a_l c]; omega) (v_a_w h hs g2 true) c).2.2
    · show u_ok (v_G E (v_a E s (v_G E s).1 true)).2
      rw [v_G_e c]
      exact v_a_u h hs g2 true c
theorem v_G_lt {nc : Nat} {E : EV} (h : v_ok nc E) {s : ST} (hs : v_w E s) : (v_G E s).1 < 11 ∧ (v_G E s).2 < 20 := by
  by_cases c : s_e s = 0
  · have := v_G_ok h (s_l s) s (Nat.le_refl _) hs c
    exact ⟨this.1, this.2.2.1⟩
  · rw [v_G_e c]
    have h1 : s_e s < 5 := hs.1.2.2.2.2.2.1
    have h2 : s_z s < 4 := hs.1.2.2.2.2.2.2
    refine ⟨(show 0 < 11 by decide), ?_⟩
    show s_u s < 20
    unfold s_u
    omega
