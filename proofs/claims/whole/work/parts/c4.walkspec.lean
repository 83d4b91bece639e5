/-! the WALK: pure facts -/
def sm (f : Nat → Nat) (a : Nat) : Nat → Nat
  | 0 => 0
  | b + 1 => sm f a b + if a ≤ b then f b else 0
theorem sm_e {f g : Nat → Nat} {a : Nat} : ∀ n, (∀ j, a ≤ j → j < n → f j = g j) → sm f a n = sm g a n := by
  intro n
  induction n with
  | zero => intro _; rfl
  | succ n ih =>
    intro h
    unfold sm
    rw [ih (fun j h1 h2 => h j h1 (by omega))]
    by_cases c : a ≤ n
    · rw [if_pos c, if_pos c, h n c (by omega)]
    · rw [if_neg c, if_neg c]
theorem sm_up {f g : Nat → Nat} {a k d : Nat} (hk : a ≤ k) (e : g k = f k + d) (h : ∀ j, j ≠ k → g j = f j) : ∀ n, k < n → sm g a n = sm f a n + d := by
  intro n
  induction n with
  | zero => intro z; omega
  | succ n ih =>
    intro z
    unfold sm
    by_cases c : k = n
    · subst c
      rw [sm_e (f := g) (g := f) k (fun j h1 h2 => h j (by omega)), if_pos hk, if_pos hk, e]
      omega
    · rw [ih (by omega), h n (fun e => c e.symm)]
      omega
theorem sm_lo {f : Nat → Nat} {a : Nat} : ∀ n, a < n → sm f a n = f a + sm f (a + 1) n := by
  intro n
  induction n with
  | zero => intro z; omega
  | succ n ih =>
    intro z
    unfold sm
    by_cases c : a = n
    · subst c
      have z0 : ∀ b m, m ≤ b → sm f b m = 0 := by
        intro b m
        induction m with
        | zero => intro _; rfl
        | succ m im =>
          intro hm
          unfold sm
          rw [im (by omega), if_neg (by omega)]
      rw [z0 a a (Nat.le_refl _), z0 (a + 1) a (by omega), if_pos (Nat.le_refl _), if_neg (by omega)]
      omega
    · rw [ih (by omega), if_pos (by omega), if_pos (by omega)]
      omega
theorem sm_0 {f : Nat → Nat} {a : Nat} : ∀ n, n ≤ a → sm f a n = 0 := by
  intro n
  induction n with
  | zero => intro _; rfl
  | succ n ih =>
    intro hm
    unfold sm
    rw [ih (by omega), if_neg (by omega)]
/-- what is different fits -/
theorem pigeon : ∀ (N n : Nat) (f : Nat → Nat), (∀ i, i < n → f i < N) → (∀ i j, i < n → j < n → f i = f j → i = j) → n ≤ N := by
  intro N
  induction N with
  | zero =>
    intro n f h _
    cases n with
    | zero => exact Nat.le_refl _
    | succ n => exact absurd (h 0 (by omega)) (by omega)
  | succ N ih =>
    intro n f h g
    by_cases c : ∃ i, i < n ∧ f i = N
    · obtain ⟨i0, hi0, e0⟩ := c
      have := ih (n - 1) (fun i => if i = i0 then f (n - 1) else f i) ?_ ?_
      · omega
      · intro i hi
        by_cases c : i = i0
        · simp only [c, if_true]
          have h1 := h (n - 1) (by omega)
          by_cases c2 : f (n - 1) = N
          · have := g (n - 1) i0 (by omega) hi0 (by omega)
            omega
          · omega
        · simp only [c, if_false]
          have h1 := h i (by omega)
          by_cases c2 : f i = N
          · exact absurd (g i i0 (by omega) hi0 (by omega)) c
          · omega
      · intro i j hi hj
        by_cases ci : i = i0
        · by_cases cj : j = i0
          · intro _; omega
          · simp only [ci, cj, if_true, if_false]
            intro e
            have := g (n - 1) j (by omega) (by omega) e
            omega
        · by_cases cj : j = i0
          · simp only [ci, cj, if_true, if_false]
            intro e
            have := g i (n - 1) (by omega) (by omega) e
            omega
          · simp only [ci, cj, if_false]
            intro e
            exact g i j (by omega) (by omega) e
    · refine Nat.le_succ_of_le (ih n f (fun i hi => ?_) g)
      have h1 := h i hi
      by_cases c2 : f i = N
      · exact absurd ⟨i, hi, c2⟩ c
      · omega
/-- the least that holds, or n -/
def lst (p : Nat → Bool) : Nat → Nat
  | 0 => 0
  | n + 1 => if p 0 then 0 else lst (fun m => p (m + 1)) n + 1
theorem lst_ok : ∀ (n : Nat) (p : Nat → Bool) (k : Nat), k < n → p k = true → p (lst p n) = true ∧ lst p n ≤ k ∧ ∀ m, m < lst p n → p m = false := by
  intro n
  induction n with
  | zero => intro p k h _; omega
  | succ n ih =>
    intro p k h hk
    unfold lst
    by_cases c : p 0 = true
    · rw [if_pos c]
      exact ⟨c, Nat.zero_le _, fun m hm => by omega⟩
    · rw [if_neg c]
      cases k with
      | zero => exact absurd hk c
      | succ k =>
        obtain ⟨h1, h2, h3⟩ := ih (fun m => p (m + 1)) k (by omega) hk
        refine ⟨h1, by omega, fun m hm => ?_⟩
        cases m with
        | zero => exact Bool.eq_false_iff.mpr c
        | succ m => exact h3 m (by omega)
theorem o_S_le {p : Nat → Bool} {f : Nat → Nat} : ∀ {m n : Nat}, m ≤ n → o_S p f m ≤ o_S p f n := by
  intro m n h
  induction n with
  | zero =>
    have : m = 0 := by omega
    subst this
    exact Nat.le_refl _
  | succ n ih =>
    by_cases c : m = n + 1
    · subst c
      exact Nat.le_refl _
    · refine Nat.le_trans (ih (by omega)) ?_
      show o_S p f n ≤ if p n then o_S p f n + f n else o_S p f n
      split <;> omega
theorem o_S_b {p : Nat → Bool} {f : Nat → Nat} {b : Nat} (h : ∀ m, p m = true → f m ≤ b) : ∀ n, o_S p f n ≤ n * b := by
  intro n
  induction n with
  | zero => exact Nat.zero_le _
  | succ n ih =>
    unfold o_S
    rw [Nat.succ_mul]
    split
    · rename_i c
      have := h n c
      omega
    · omega
theorem o_S_0 {p : Nat → Bool} {f : Nat → Nat} : ∀ n, o_S p f n = 0 ↔ ∀ m, m < n → p m = true → f m = 0 := by
  intro n
  induction n with
  | zero => exact ⟨fun _ m h => by omega, fun _ => rfl⟩
  | succ n ih =>
    unfold o_S
    by_cases c : p n = true
    · rw [if_pos c]
      refine ⟨fun h m hm hp => ?_, fun h => ?_⟩
      · by_cases e : m = n
        · subst e; omega
        · exact ih.mp (by omega) m (by omega) hp
      · have h1 := h n (by omega) c
        have h2 := ih.mpr (fun m hm => h m (by omega))
        omega
    · rw [if_neg c]
      refine ⟨fun h m hm hp => ?_, fun h => ih.mpr (fun m hm => h m (by omega))⟩
      by_cases e : m = n
      · subst e; exact absurd hp c
      · exact ih.mp h m (by omega) hp
theorem o_O_0 {p : Nat → Bool} {f : Nat → Nat} {u : Nat} : ∀ n, (o_O p f n).testBit u = false ↔ ∀ m, m < n → p m = true → (f m).testBit u = false := by
  intro n
  induction n with
  | zero => exact ⟨fun _ m h => by omega, fun _ => Nat.zero_testBit u⟩
  | succ n ih =>
    unfold o_O
    by_cases c : p n = true
    · rw [if_pos c, Nat.testBit_or, Bool.or_eq_false_iff]
      refine ⟨fun h m hm hp => ?_, fun h => ⟨ih.mpr (fun m hm => h m (by omega)), h n (by omega) c⟩⟩
      by_cases e : m = n
      · subst e; exact h.2
      · exact ih.mp h.1 m (by omega) hp
    · rw [if_neg c]
      refine ⟨fun h m hm hp => ?_, fun h => ih.mpr (fun m hm => h m (by omega))⟩
      by_cases e : m = n
      · subst e; exact absurd hp c
      · exact ih.mp h m (by omega) hp
/-- the least of them: 99, or one more than one, and no more than any -/
theorem o_M_ok {p : Nat → Bool} {f : Nat → Nat} : ∀ n, (o_M p f n = 99 ∨ ∃ m, m < n ∧ p m = true ∧ f m < 99 ∧ o_M p f n = f m + 1) ∧ ∀ m, m < n → p m = true → f m < 99 → o_M p f n ≤ f m + 1 := by
  intro n
  induction n with
  | zero => exact ⟨Or.inl rfl, fun m h => by omega⟩
  | succ n ih =>
    obtain ⟨h1, h2⟩ := ih
    unfold o_M
    by_cases c : p n = true
    · rw [if_pos c]
      by_cases c2 : f n < 99 ∧ f n + 1 < o_M p f n
      · rw [if_pos c2]
        refine ⟨Or.inr ⟨n, by omega, c, c2.1, rfl⟩, fun m hm hp hf => ?_⟩
        by_cases e : m = n
        · subst e; omega
        · have := h2 m (by omega) hp hf
          omega
      · rw [if_neg c2]
        refine ⟨?_, fun m hm hp hf => ?_⟩
        · rcases h1 with h | ⟨m, hm, h⟩
          · exact Or.inl h
          · exact Or.inr ⟨m, by omega, h⟩
        · by_cases e : m = n
          · subst e; omega
          · exact h2 m (by omega) hp hf
    · rw [if_neg c]
      refine ⟨?_, fun m hm hp hf => ?_⟩
      · rcases h1 with h | ⟨m, hm, h⟩
        · exact Or.inl h
        · exact Or.inr ⟨m, by omega, h⟩
      · by_cases e : m = n
        · subst e; exact absurd hp c
        · exact h2 m (by omega) hp hf
section SPEC
variable {nc : Nat} {E : EV} {x : Int32} {s : ST}
theorem v_can_11 {m : Nat} (h : v_can E s m = true) : m < 11 := (v_canI.mp h).2.1
theorem w_nn_b (E : EV) (x : Int32) : ∀ (n : Nat) (s : ST), w_nn E x n s ≤ 11 ^ n := by
  intro n
  induction n with
  | zero =>
    intro s
    unfold w_nn
    split <;> decide
  | succ n ih =>
    intro s
    have h1 : 0 < 11 ^ (n + 1) := Nat.pow_pos (by decide)
    unfold w_nn
    split
    · rw [Nat.pow_succ, Nat.mul_comm]
      exact o_S_b (fun m _ => ih _) 11
    · split <;> omega
theorem v_W_b (h : v_ok nc E) (x : Int32) (hs : v_w E s) (h0 : s_e s = 0) : v_W E x s ≤ 214358881 := by
  have h1 := v_h_le h
  have h2 := (hs.2 h0).2.2.1
  refine Nat.le_trans (w_nn_b E x (s_l s) s) ?_
  refine Nat.le_trans (Nat.pow_le_pow_right (by decide) (show s_l s ≤ 8 by omega)) ?_
  decide
/-- an outcome can be reached: the ends tell it, the ways tell it, the brief tells it -/
theorem v_EW (h : v_ok nc E) {u : Nat} (hu : u < 20) : ∀ (l : Nat) (s : ST), s_l s ≤ l → v_w E s → ((v_E E s).testBit u = false ↔ v_W E (nI u) s = 0) := by
  intro l
  have he : ∀ (s : ST), v_w E s → ¬ s_e s = 0 → ((v_E E s).testBit u = false ↔ v_W E (nI u) s = 0) := by
    intro s hs c
    have hu2 := s_u_lt hs.1
    rw [v_E_e c, v_W_e c, Nat.testBit_two_pow]
    by_cases e : s_u s = u
    · subst e
      simp
    · have e2 : ¬ nI (s_u s) = nI u := fun z => e ((nI_eq (by omega) (by omega)).mp z)
      rw [if_neg e2]
      simp [e]
  induction l with
  | zero =>
    intro s hl hs
    by_cases c : s_e s = 0
    · have := (hs.2 c).2.1
      omega
    · exact he s hs c
  | succ l ih =>
    intro s hl hs
    by_cases c : s_e s = 0
    · rw [v_E_s c (hs.2 c).2.1, v_W_s c (hs.2 c).2.1, o_O_0, o_S_0]
      have one : ∀ m, v_can E s m = true → ((v_E E (v_a E s m true)).testBit u = false ↔ v_W E (nI u) (v_a E s m true) = 0) := by
        intro m hm
        have hw := v_a_w h hs hm true
        by_cases c2 : s_e (v_a E s m true) = 0
        · exact ih _ (by rw [v_a_l c2]; omega) hw
        · exact he _ hw c2
      exact ⟨fun z m hm hp => (one m hp).mp (z m hm hp), fun z m hm hp => (one m hp).mpr (z m hm hp)⟩
    · exact he s hs c
theorem v_bW (h : v_ok nc E) {x : Int32} : ∀ (l : Nat) (s : ST), s_l s ≤ l → v_w E s → l < 20 → (v_W E x s = 0 → v_b E x s = 99) ∧ (v_W E x s ≠ 0 → v_b E x s ≤ l) := by
  intro l
  have he : ∀ (s : ST), v_w E s → ¬ s_e s = 0 → (v_W E x s = 0 → v_b E x s = 99) ∧ (v_W E x s ≠ 0 → v_b E x s = 0) := by
    intro s hs c
    rw [v_b_e c, v_W_e c]
    by_cases e : nI (s_u s) = x
    · simp [e]
    · simp [e]
  induction l with
  | zero =>
    intro s hl hs _
    by_cases c : s_e s = 0
    · have := (hs.2 c).2.1
      omega
    · have := he s hs c
      exact ⟨this.1, fun z => by rw [this.2 z]; omega⟩
  | succ l ih =>
    intro s hl hs hl20
    by_cases c : s_e s = 0
    · rw [v_b_s c (hs.2 c).2.1, v_W_s c (hs.2 c).2.1]
      have one : ∀ m, v_can E s m = true → (v_W E x (v_a E s m true) = 0 → v_b E x (v_a E s m true) = 99) ∧ (v_W E x (v_a E s m true) ≠ 0 → v_b E x (v_a E s m true) ≤ l) := by
        intro m hm
        have hw := v_a_w h hs hm true
        by_cases c2 : s_e (v_a E s m true) = 0
        · exact ih _ (by rw [v_a_l c2]; omega) hw (by omega)
        · have := he _ hw c2
          exact ⟨this.1, fun z => by rw [this.2 z]; omega⟩
      obtain ⟨g1, g2⟩ := o_M_ok (p := v_can E s) (f := fun m => v_b E x (v_a E s m true)) 11
      refine ⟨fun z => ?_, fun z => ?_⟩
      · rcases g1 with g | ⟨m, hm, hp, hf, g⟩
        · exact g
        · have z2 := (o_S_0 11).mp z m hm hp
          have := (one m hp).1 z2
          omega
      · by_cases c3 : ∀ m, m < 11 → v_can E s m = true → v_W E x (v_a E s m true) = 0
        · exact absurd ((o_S_0 11).mpr c3) z
        · obtain ⟨m, c3⟩ := Classical.not_forall.mp c3
          have hm : m < 11 := Classical.byContradiction (fun q => c3 (fun w => absurd w q))
          have hp : v_can E s m = true := Classical.byContradiction (fun q => c3 (fun _ w => absurd w q))
          have hz : v_W E x (v_a E s m true) ≠ 0 := fun q => c3 (fun _ _ => q)
          have k1 := (one m hp).2 hz
          have k2 := g2 m hm hp (show v_b E x (v_a E s m true) < 99 by omega)
          have k2 : o_M (v_can E s) (fun m => v_b E x (v_a E s m true)) 11 ≤ v_b E x (v_a E s m true) + 1 := k2
          omega
    · have := he s hs c
      exact ⟨this.1, fun z => by rw [this.2 z]; omega⟩
/-- a move more at the most -/
theorem v_b_step (h0 : s_e s = 0) (hl : 0 < s_l s) {m : Nat} (hm : v_can E s m = true) (hb : v_b E x (v_a E s m true) < 99) : v_b E x s ≤ v_b E x (v_a E s m true) + 1 := by
  rw [v_b_s h0 hl]
  exact (o_M_ok 11).2 m (v_can_11 hm) hm hb
theorem v_b_some (h0 : s_e s = 0) (hl : 0 < s_l s) (hb : v_b E x s < 99) : ∃ m, m < 11 ∧ v_can E s m = true ∧ v_b E x (v_a E s m true) + 1 = v_b E x s := by
  rw [v_b_s h0 hl] at hb ⊢
  rcases (o_M_ok (p := v_can E s) (f := fun m => v_b E x (v_a E s m true)) 11).1 with g | ⟨m, hm, hp, hf, g⟩
  · omega
  · exact ⟨m, hm, hp, g.symm⟩
theorem v_b_pos (h0 : s_e s = 0) (hl : 0 < s_l s) : 0 < v_b E x s := by
  rw [v_b_s h0 hl]
  rcases (o_M_ok (p := v_can E s) (f := fun m => v_b E x (v_a E s m true)) 11).1 with g | ⟨m, hm, hp, hf, g⟩
  · rw [g]; decide
  · rw [g]; omega
/-- the brief's move -/
def v_P (E : EV) (x : Int32) (s : ST) (m : Nat) : Bool := v_can E s m && decide (v_b E x (v_a E s m true) + 1 = v_b E x s)
def v_M (E : EV) (x : Int32) (s : ST) : Nat := lst (v_P E x s) 11
def v_q (E : EV) (x : Int32) (s : ST) : Nat → ST
  | 0 => s
  | k + 1 => v_a E (v_q E x s k) (v_M E x (v_q E x s k)) true
theorem v_PI {m : Nat} : v_P E x s m = true ↔ (v_can E s m = true ∧ v_b E x (v_a E s m true) + 1 = v_b E x s) := by
  unfold v_P
  rw [Bool.and_eq_true, decide_eq_true_iff]
theorem v_M_ok (h0 : s_e s = 0) (hl : 0 < s_l s) (hb : v_b E x s < 99) : v_can E s (v_M E x s) = true ∧ v_b E x (v_a E s (v_M E x s) true) + 1 = v_b E x s ∧ ∀ m, v_can E s m = true → v_b E x (v_a E s m true) + 1 = v_b E x s → v_M E x s ≤ m := by
  obtain ⟨m, hm, hp, hq⟩ := v_b_some h0 hl hb
  obtain ⟨h1, h2, h3⟩ := lst_ok 11 (v_P E x s) m hm (v_PI.mpr ⟨hp, hq⟩)
  obtain ⟨h4, h5⟩ := v_PI.mp h1
  refine ⟨h4, h5, fun k hk hk2 => ?_⟩
  by_cases c : v_M E x s ≤ k
  · exact c
  · have := h3 k (by unfold v_M at c; omega)
    rw [v_PI.mpr ⟨hk, hk2⟩] at this
    cases this
end SPEC
