/-! ENDS, WAYS, BRIEF; the reference's works -/
def o_O (p : Nat → Bool) (f : Nat → Nat) : Nat → Nat
  | 0 => 0
  | m + 1 => if p m then o_O p f m ||| f m else o_O p f m
def o_S (p : Nat → Bool) (f : Nat → Nat) : Nat → Nat
  | 0 => 0
  | m + 1 => if p m then o_S p f m + f m else o_S p f m
def o_M (p : Nat → Bool) (f : Nat → Nat) : Nat → Nat
  | 0 => 99
  | m + 1 => if p m then (if f m < 99 ∧ f m + 1 < o_M p f m then f m + 1 else o_M p f m) else o_M p f m
def e_nn (E : EV) : Nat → ST → Nat
  | 0, s => 2 ^ s_u s
  | n + 1, s => if s_e s = 0 then o_O (v_can E s) (fun m => e_nn E n (v_a E s m true)) 11 else 2 ^ s_u s
def w_nn (E : EV) (x : Int32) : Nat → ST → Nat
  | 0, s => if nI (s_u s) = x then 1 else 0
  | n + 1, s => if s_e s = 0 then o_S (v_can E s) (fun m => w_nn E x n (v_a E s m true)) 11 else if nI (s_u s) = x then 1 else 0
def b_nn (E : EV) (x : Int32) : Nat → ST → Nat
  | 0, s => if nI (s_u s) = x then 0 else 99
  | n + 1, s => if s_e s = 0 then o_M (v_can E s) (fun m => b_nn E x n (v_a E s m true)) 11 else if nI (s_u s) = x then 0 else 99
def v_E (E : EV) (s : ST) : Nat := e_nn E (s_l s) s
def v_W (E : EV) (x : Int32) (s : ST) : Nat := w_nn E x (s_l s) s
def v_b (E : EV) (x : Int32) (s : ST) : Nat := b_nn E x (s_l s) s
theorem e_nn_e {E : EV} {s : ST} (h : ¬ s_e s = 0) : ∀ n, e_nn E n s = 2 ^ s_u s := by
  intro n
  cases n with
  | zero => rfl
  | succ n => exact if_neg h
theorem w_nn_e {E : EV} {x : Int32} {s : ST} (h : ¬ s_e s = 0) : ∀ n, w_nn E x n s = if nI (s_u s) = x then 1 else 0 := by
  intro n
  cases n with
  | zero => rfl
  | succ n => exact if_neg h
theorem b_nn_e {E : EV} {x : Int32} {s : ST} (h : ¬ s_e s = 0) : ∀ n, b_nn E x n s = if nI (s_u s) = x then 0 else 99 := by
  intro n
  cases n with
  | zero => rfl
  | succ n => exact if_neg h
theorem v_E_e {E : EV} {s : ST} (h : ¬ s_e s = 0) : v_E E s = 2 ^ s_u s := e_nn_e h _
theorem v_W_e {E : EV} {x : Int32} {s : ST} (h : ¬ s_e s = 0) : v_W E x s = if nI (s_u s) = x then 1 else 0 := w_nn_e h _
theorem v_b_e {E : EV} {x : Int32} {s : ST} (h : ¬ s_e s = 0) : v_b E x s = if nI (s_u s) = x then 0 else 99 := b_nn_e h _
theorem v_E_s {E : EV} {s : ST} (h0 : s_e s = 0) (hl : 0 < s_l s) : v_E E s = o_O (v_can E s) (fun m => v_E E (v_a E s m true)) 11 := by
  unfold v_E
  obtain ⟨l, hl2⟩ : ∃ l, s_l s = l + 1 := ⟨s_l s - 1, by omega⟩
  rw [hl2, e_nn, if_pos h0]
  congr 1
  funext m
  by_cases c : s_e (v_a E s m true) = 0
  · rw [v_a_l c, hl2]
    rfl
  · rw [e_nn_e c, e_nn_e c]
theorem v_W_s {E : EV} {x : Int32} {s : ST} (h0 : s_e s = 0) (hl : 0 < s_l s) : v_W E x s = o_S (v_can E s) (fun m => v_W E x (v_a E s m true)) 11 := by
  unfold v_W
  obtain ⟨l, hl2⟩ : ∃ l, s_l s = l + 1 := ⟨s_l s - 1, by omega⟩
  rw [hl2, w_nn, if_pos h0]
  congr 1
  funext m
  by_cases c : s_e (v_a E s m true) = 0
  · rw [v_a_l c, hl2]
    rfl
  · rw [w_nn_e c, w_nn_e c]
theorem v_b_s {E : EV} {x : Int32} {s : ST} (h0 : s_e s = 0) (hl : 0 < s_l s) : v_b E x s = o_M (v_can E s) (fun m => v_b E x (v_a E s m true)) 11 := by
  unfold v_b
  obtain ⟨l, hl2⟩ : ∃ l, s_l s = l + 1 := ⟨s_l s - 1, by omega⟩
  rw [hl2, b_nn, if_pos h0]
  congr 1
  funext m
  by_cases c : s_e (v_a E s m true) = 0
  · rw [v_a_l c, hl2]
    rfl
  · rw [b_nn_e c, b_nn_e c]
theorem o_M_le (p : Nat → Bool) (f : Nat → Nat) : ∀ n, o_M p f n ≤ 99 := by
  intro n
  induction n with
  | zero => exact Nat.le_refl _
  | succ n ih =>
    unfold o_M
    split
    · split
      · omega
      · exact ih
    · exact ih
theorem b_nn_le (E : EV) (x : Int32) : ∀ (n : Nat) (s : ST), b_nn E x n s ≤ 99 := by
  intro n s
  cases n with
  | zero =>
    unfold b_nn
    split <;> omega
  | succ n =>
    unfold b_nn
    split
    · exact o_M_le _ _ _
    · split <;> omega
theorem v_b_le (E : EV) (x : Int32) (s : ST) : v_b E x s ≤ 99 := b_nn_le E x _ s
theorem o_O_lt {p : Nat → Bool} {f : Nat → Nat} {k : Nat} (h : ∀ m, p m = true → f m < 2 ^ k) : ∀ n, o_O p f n < 2 ^ k := by
  intro n
  induction n with
  | zero => exact Nat.two_pow_pos _
  | succ n ih =>
    unfold o_O
    split
    · rename_i c
      exact Nat.or_lt_two_pow ih (h n c)
    · exact ih
theorem s_u_lt {s : ST} (h : s_ok s) : s_u s < 20 := by
  have h1 : s_e s < 5 := h.2.2.2.2.2.1
  have h2 : s_z s < 4 := h.2.2.2.2.2.2
  unfold s_u
  omega
theorem v_E_lt {nc : Nat} {E : EV} (h : v_ok nc E) : ∀ (l : Nat) (s : ST), s_l s ≤ l → v_w E s → v_E E s < 2 ^ 20 := by
  intro l
  induction l with
  | zero =>
    intro s hl hs
    have c : ¬ s_e s = 0 := fun z => by
      have := (hs.2 z).2.1
      omega
    rw [v_E_e c]
    exact Nat.pow_lt_pow_right (by decide) (s_u_lt hs.1)
  | succ l ih =>
    intro s hl hs
    by_cases c : s_e s = 0
    · rw [v_E_s c (hs.2 c).2.1]
      refine o_O_lt (fun m hm => ?_) 11
      have hw := v_a_w h hs hm true
      by_cases c2 : s_e (v_a E s m true) = 0
      · exact ih _ (by rw [v_a_l c2]; omega) hw
      · rw [v_E_e c2]
        exact Nat.pow_lt_pow_right (by decide) (s_u_lt hw.1)
    · rw [v_E_e c]
      exact Nat.pow_lt_pow_right (by decide) (s_u_lt hs.1)
/-- the values at a place are those of its state -/
def VA1 (M : QM) (E : EV) (x : Int32) (b : Nat) : Prop := q_a M 1000 37 b = nI (v_G E (s_up b)).2 ∧ q_a M 1000 38 b = nI (v_G E (s_up b)).1 ∧ q_a M 1000 39 b = nI (v_E E (s_up b)) ∧ q_l M 1000 40 b = lN (v_W E x (s_up b)) ∧ q_a M 1000 41 b = nI (v_b E x (s_up b))
theorem m1_le : (nI 0 ≤ -nI 1) = False := eq_false (by decide)
theorem m1_lt : (-nI 1 < nI 0) = True := eq_true (by decide)
theorem y_lit64 (n : Nat) : (OfNat.ofNat n : Int64) = lN n := by
  have h : ∀ x : Int64, x = lN n → x = lN n := fun _ h => h
  exact h _ rfl
section WORKS
variable {nc c0 c1 : Nat} {M : QM} {E : EV}
theorem sX12_worth (M : QM) {u h : Nat} (hu : u_ok u) (hh : h < 2) : fX12_worth M (nI u) (nI h) = some (nI (u_w u h), M) := by
  have hu20 := hu.1
  have e1 : nI 1 - nI h = nI (1 - h) := pk_sub (by omega)
  have e4 : nI u / nI 4 = nI (u / 4) := pk_div (by omega) (by decide) (by decide)
  have b1 : u / 2 ^ h % 2 < 2 := Nat.mod_lt _ (by decide)
  unfold fX12_worth fX12_worth_b29 u_w
  by_cases c : u = 8
  · subst c
    have e8 : nI 8 / nI 4 = nI 2 := by decide
    simp (disch := omega) only [y_lit, y_lt_T, y_lt_F, y_le_T, y_le_F, y_eq_T, y_eq_F, y_in_T, y_cl, ↓reduceIte, y_bs, y_bvs, y_os, y_on, y_t, ne_eq, not_true_eq_false, not_false_eq_true, pk_mul, nI_add, e1, e8, y_bit, if_true]
  · have c4 : ¬ u / 4 = 2 := fun z => c (hu.2 z)
    simp (disch := omega) only [y_lit, y_lt_T, y_lt_F, y_le_T, y_le_F, y_eq_T, y_eq_F, y_in_T, y_cl, ↓reduceIte, y_bs, y_bvs, y_os, y_on, y_t, ne_eq, not_true_eq_false, not_false_eq_true, pk_mul, nI_add, e1, e4, y_bit, c, if_false]
theorem sX12_outcome {s : ST} (R : RST M s) : fX12_outcome M = some (nI (s_u s), M) := by
  unfold fX12_outcome
  rw [R.2.2.2.2.1, R.2.2.2.2.2, L4, pk_mul, nI_add]
  rfl
/-- the last stages at one move: ends, ways, brief -/
theorem sX12_works_b182 {k69 : QM → Int32 → Int32 → Int32 → Int32 → Option QM} {k8 : QM → Int32 → Int32 → Option QM} {N : QM} {x : Int32} {at' m e w b fe fw fb : Nat} {x3 x5 : Int32} (hat : at' < 13824) (hb : b ≤ 99) (hfb : fb ≤ 99) (h39 : q_a N 1000 39 at' = nI e) (h40 : q_l N 1000 40 at' = lN w) (h41 : q_a N 1000 41 at' = nI b)
    (h5 : (∃ j, j < 13824 ∧ j ≠ at' ∧ x5 = nI j ∧ q_a N 1000 39 j = nI fe ∧ q_l N 1000 40 j = lN fw ∧ q_a N 1000 41 j = nI fb) ∨ (x5 = -nI 1 ∧ ∃ s, RST N s ∧ s_u s < 20 ∧ fe = 2 ^ s_u s ∧ fw = (if nI (s_u s) = x then 1 else 0) ∧ fb = if nI (s_u s) = x then 0 else 99)) :
    fX12_works_b182 k69 k8 N x (nI at') x3 (nI m) x5 = k69 (p_a (p_l (p_a N 1000 39 at' (nI (e ||| fe))) 1000 40 at' (lN (w + fw))) 1000 41 at' (nI (if fb < 99 ∧ fb + 1 < b then fb + 1 else b))) x (nI at') x3 (nI (m + 1)) := by
  have w41 : ∀ {N2 : QM} (i k : Nat) (v : Int32) (v2 : Int64), q_a (p_l (p_a N2 1000 39 i v) 1000 40 i v2) 1000 41 k = q_a N2 1000 41 k := fun i k v v2 => by
    rw [q_a_p_l, q_a_p_a, if_neg (fun z => absurd z.2.1 (by decide))]
  have w40 : ∀ {N2 : QM} (i k : Nat) (v : Int32), q_l (p_a N2 1000 39 i v) 1000 40 k = q_l N2 1000 40 k := fun i k v => by
    rw [q_l_p_a]
  have last : ∀ N2 : QM, q_a N2 1000 41 at' = nI b → ∀ s0 : Nat, s0 = fb → fX12_works_b278 k69 k8 N2 x (nI at') x3 (nI m) (nI s0) = k69 (p_a N2 1000 41 at' (nI (if fb < 99 ∧ fb + 1 < b then fb + 1 else b))) x (nI at') x3 (nI (m + 1)) := fun N2 hN2 s0 es0 => by
    subst es0
    by_cases c1 : s0 < 99
    · by_cases c2 : s0 + 1 < b
      · simp (disch := omega) only [fX12_works_b278, fX12_works_b312, fX12_works_b318, fX12_works_b319, y_lit, y_lt_T, y_lt_F, y_le_T, y_le_F, y_eq_T, y_eq_F, y_in_T, y_cl, ↓reduceIte, y_bs, y_bvs, y_os, y_on, y_t, ne_eq, not_true_eq_false, not_false_eq_true, pk_mul, nI_add, hN2, c1, c2, and_self, if_true]
      · simp (disch := omega) only [fX12_works_b278, fX12_works_b312, fX12_works_b318, fX12_works_b319, y_lit, y_lt_T, y_lt_F, y_le_T, y_le_F, y_eq_T, y_eq_F, y_in_T, y_cl, ↓reduceIte, y_bs, y_bvs, y_os, y_on, y_t, ne_eq, not_true_eq_false, not_false_eq_true, pk_mul, nI_add, hN2, c2, and_false, if_false]
    · simp (disch := omega) only [fX12_works_b278, fX12_works_b312, fX12_works_b318, fX12_works_b319, y_lit, y_lt_T, y_lt_F, y_le_T, y_le_F, y_eq_T, y_eq_F, y_in_T, y_cl, ↓reduceIte, y_bs, y_bvs, y_os, y_on, y_t, ne_eq, not_true_eq_false, not_false_eq_true, pk_mul, nI_add, hN2, c1, false_and, if_false]
  rcases h5 with ⟨j, hj, hja, rfl, f1, f2, f3⟩ | ⟨rfl, s, R, hu, rfl, rfl, rfl⟩
  · unfold fX12_works_b182 fX12_works_b210 fX12_works_b247
    simp (disch := omega) only [y_lit, y_lt_T, y_lt_F, y_le_T, y_le_F, y_eq_T, y_eq_F, y_in_T, y_cl, ↓reduceIte, y_bs, y_bvs, y_os, y_on, y_t, ne_eq, not_true_eq_false, not_false_eq_true, pk_mul, nI_add, f1, h39, w40, f2, h40, w41, f3, nI_or, lN_add]
    exact last _ (by rw [w41, h41]) fb rfl
  · have R1 : ∀ v, RST (p_a N 1000 39 at' v) s := fun v => R.kept (kp_a (S := fun _ j => j = 39) rfl) (fun j z => by omega)
    have R2 : ∀ v v2, RST (p_l (p_a N 1000 39 at' v) 1000 40 at' v2) s := fun v v2 => (R1 v).kept (kp_l (S := fun _ j => j = 40) rfl) (fun j z => by omega)
    unfold fX12_works_b182 fX12_works_b210
    rw [sX12_outcome R]
    simp (disch := omega) only [y_lit, y_lt_T, y_lt_F, y_le_T, y_le_F, y_eq_T, y_eq_F, y_in_T, y_cl, ↓reduceIte, y_bs, y_bvs, y_os, y_on, y_t, ne_eq, not_true_eq_false, not_false_eq_true, pk_mul, nI_add, m1_le, h39, y_b31, nI_or]
    rw [sX12_outcome (R1 _)]
    by_cases c : nI (s_u s) = x
    · simp (disch := omega) only [y_lit, y_lt_T, y_lt_F, y_le_T, y_le_F, y_eq_T, y_eq_F, y_in_T, y_cl, ↓reduceIte, y_bs, y_bvs, y_os, y_on, y_t, ne_eq, not_true_eq_false, not_false_eq_true, pk_mul, nI_add, w40, h40, c, y_lit64, fX12_works_b247, m1_le, lN_add]
      rw [sX12_outcome (R2 _ _)]
      simp (disch := omega) only [y_lit, y_lt_T, y_lt_F, y_le_T, y_le_F, y_eq_T, y_eq_F, y_in_T, y_cl, ↓reduceIte, y_bs, y_bvs, y_os, y_on, y_t, ne_eq, not_true_eq_false, not_false_eq_true, pk_mul, nI_add, c]
      refine (last _ ?_ 0 ?_).trans ?_
      · rw [w41, h41]
      · rw [if_pos c]
      · simp only [c, if_true]
    · simp (disch := omega) only [y_lit, y_lt_T, y_lt_F, y_le_T, y_le_F, y_eq_T, y_eq_F, y_in_T, y_cl, ↓reduceIte, y_bs, y_bvs, y_os, y_on, y_t, ne_eq, not_true_eq_false, not_false_eq_true, pk_mul, nI_add, w40, h40, c, y_lit64, fX12_works_b247, m1_le, lN_add]
      rw [sX12_outcome (R2 _ _)]
      simp (disch := omega) only [y_lit, y_lt_T, y_lt_F, y_le_T, y_le_F, y_eq_T, y_eq_F, y_in_T, y_cl, ↓reduceIte, y_bs, y_bvs, y_os, y_on, y_t, ne_eq, not_true_eq_false, not_false_eq_true, pk_mul, nI_add, c]
      refine (last _ ?_ 99 ?_).trans ?_
      · rw [w41, h41]
      · rw [if_neg c]
      · simp only [c, if_false]
end WORKS
