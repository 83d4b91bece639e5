/-! the class's game -/
def SG (a j : Nat) : Prop := SA a j ∨ (a = 5 ∧ j = 0)
/-- the number that the class keeps of a state -/
def v_K (E : EV) (s : ST) : Nat := 32 * (v_G E s).1 + (v_G E s).2
def GA (M : QM) (E : EV) (g : Nat) : Prop := q_i M 5 1 = nI g ∧ (∀ i, i < 4096 → ∃ b, b < 512 * (g + 1) ∧ q_a M 5 0 i = nI b) ∧ ∀ s, v_w E s → s_e s = 0 → ∀ b, b < 512 * (g + 1) → q_a M 5 0 (s_s s) = nI b → b / 512 = g → b % 512 = v_K E s
theorem SG_5 {a j : Nat} (h : SG a j) : S5 a j := by
  unfold SG SA at h
  unfold S5 S1
  omega
theorem y_shr9 {n : Nat} (h : n < 2147483648) : nI n >>> (nI 9 &&& nI 31) = nI (n / 512) := pk_shrN h _ 9 (by decide)
theorem y_shl9 {n : Nat} (h : n < 8388608) : nI n <<< (nI 9 &&& nI 31) = nI (n * 512) := pk_shlN _ 9 (by decide) (by omega)
theorem y_shr5 {n : Nat} (h : n < 2147483648) : nI n >>> (nI 5 &&& nI 31) = nI (n / 32) := pk_shrN h _ 5 (by decide)
theorem y_shl5 {n : Nat} (h : n < 67108864) : nI n <<< (nI 5 &&& nI 31) = nI (n * 32) := pk_shlN _ 5 (by decide) (by omega)
theorem y_and31 {n : Nat} (h : n < 4294967296) : nI n &&& nI 31 = nI (n % 32) := pk_andN h 5 (by decide)
theorem y_and511 {n : Nat} (h : n < 4294967296) : nI n &&& nI 511 = nI (n % 512) := pk_andN h 9 (by decide)
section SETTLE
variable {nc c0 c1 a g : Nat} {M : QM} {E : EV}
theorem GA.kept {N : QM} {S : Nat → Nat → Prop} (h : GA M E g) (k : kp S M N) (hS : ∀ j, S 5 j → False) : GA N E g := by
  refine ⟨(k.i (fun z => hS _ z)).trans h.1, fun i hi => ?_, fun s hs h0 b hb e => ?_⟩
  · rw [k.a (fun z => hS _ z)]
    exact h.2.1 i hi
  · rw [k.a (fun z => hS _ z)] at e
    exact h.2.2 s hs h0 b hb e
theorem sX3_worthOf (M : QM) {u h : Nat} (hu : u < 20) (hh : h < 2) : fX3_worthOf M (nI u) (nI h) = some (nI (u_w u h), M) := by
  have e1 : nI 1 - nI h = nI (1 - h) := pk_sub (by omega)
  have b1 : u / 2 ^ h % 2 < 2 := Nat.mod_lt _ (by decide)
  unfold fX3_worthOf fX3_worthOf_b17 u_w
  by_cases c : u = 8
  · simp (disch := omega) only [y_lit, y_lt_T, y_lt_F, y_le_T, y_le_F, y_eq_T, y_eq_F, y_in_T, y_cl, ↓reduceIte, y_bs, y_bvs, y_os, y_on, y_t, ne_eq, not_true_eq_false, not_false_eq_true, pk_mul, nI_add, e1, y_bit, c, if_true]
  · simp (disch := omega) only [y_lit, y_lt_T, y_lt_F, y_le_T, y_le_F, y_eq_T, y_eq_F, y_in_T, y_cl, ↓reduceIte, y_bs, y_bvs, y_os, y_on, y_t, ne_eq, not_true_eq_false, not_false_eq_true, pk_mul, nI_add, e1, y_bit, c, if_false]
/-- one state more is known -/
theorem GA.put (h : v_ok nc E) (hG : GA M E g) (hg : g < 4000000) {s : ST} (hs : v_w E s) (h0 : s_e s = 0) : GA (p_a M 5 0 (s_s s) (nI (g * 512 + v_K E s))) E g := by
  have hlt := v_G_lt h hs
  have hK : v_K E s < 512 := by
    unfold v_K
    omega
  refine ⟨hG.1, fun i hi => ?_, fun u hu hu0 b hb e hb2 => ?_⟩
  · rw [q_a_p_a]
    by_cases e : i = s_s s
    · rw [if_pos ⟨rfl, rfl, e⟩]
      exact ⟨_, by omega, rfl⟩
    · rw [if_neg (by omega)]
      exact hG.2.1 i hi
  · rw [q_a_p_a] at e
    by_cases e2 : s_s u = s_s s
    · have := s_s_inj h hu hs hu0 h0 e2
      subst this
      rw [if_pos ⟨rfl, rfl, rfl⟩] at e
      have := (nI_eq (by omega) (by omega)).mp e
      omega
    · rw [if_neg (by omega)] at e
      exact hG.2.2 u hu hu0 b hb e hb2
/-- the loop over the moves: best so far, its worth -/
def g_B (x : Option (Nat × Nat)) : Nat := match x with
  | none => 0
  | some y => 32 * y.1 + y.2
def g_W (x : Option (Nat × Nat)) (h : Nat) : Nat := match x with
  | none => 8
  | some y => u_w y.2 h
theorem g_b_stop {p : Nat → Bool} {f : Nat → Nat} {h i : Nat} (hz : g_W (g_b p f h i) h = 0) : ∀ n, g_b p f h (i + n) = g_b p f h i := by
  intro n
  induction n with
  | zero => rfl
  | succ n ih =>
    show g_b p f h (i + n + 1) = _
    rw [g_b, ih]
    by_cases c : p (i + n) = true
    · rw [if_pos c]
      cases e : g_b p f h i with
      | none =>
        rw [e] at hz
        exact absurd hz (show ¬ (8 = 0) by decide)
      | some x =>
        obtain ⟨k, u⟩ := x
        rw [e] at hz
        have hz : u_w u h = 0 := hz
        show (if u_w (f (i + n)) h < u_w u h then some (i + n, f (i + n)) else some (k, u)) = some (k, u)
        rw [if_neg (by omega)]
    · rw [if_neg c]
theorem sX3_settle_b69 (h : v_ok nc E) (ha : a < 2000000000) (hg : g < 4000000) {s : ST} (hs : v_w E s) (h0 : s_e s = 0) {d : Nat} (hd : d < 9) {rc : QM → Int32 → Int32 → Option (Int32 × QM)}
    (hrc : ∀ (N : QM) (m : Nat), v_can E s m = true → AF N E c0 c1 → MA N a → GA N E g → qW (rc N (s_p (v_a E s m true)) (nI (d + 1))) (fun r N1 => r = nI (v_K E (v_a E s m true)) ∧ AF N1 E c0 c1 ∧ MA N1 a ∧ GA N1 E g ∧ kp SG N N1)) :
    ∀ (n i q : Nat) (N : QM), i + n = 11 → n < q → AF N E c0 c1 → MA N a → GA N E g → kp SG M N →
    qW (fX3_settle_b69 rc q N (s_p s) (nI d) (nI (s_s s)) (nI (s_t s)) (nI (g_B (g_b (v_can E s) (fun m => (v_G E (v_a E s m true)).2) (s_t s) i))) (nI (g_W (g_b (v_can E s) (fun m => (v_G E (v_a E s m true)).2) (s_t s) i) (s_t s))) (nI i))
      (fun r N1 => r = nI (v_K E s) ∧ AF N1 E c0 c1 ∧ MA N1 a ∧ GA N1 E g ∧ kp SG M N1) := by
  have hl0 := (hs.2 h0).2.1
  have ht : s_t s < 2 := hs.1.2.2.2.1
  have hsl := s_sl hs.1
  have hGb := v_G_b (E := E) h0 hl0
  have hlt := v_G_lt h hs
  have hK : v_K E s < 512 := by
    unfold v_K
    omega
  have bnd : ∀ i, g_B (g_b (v_can E s) (fun m => (v_G E (v_a E s m true)).2) (s_t s) i) < 512 ∨ 11 < i := fun i => by
    cases e : g_b (v_can E s) (fun m => (v_G E (v_a E s m true)).2) (s_t s) i with
    | none => exact Or.inl (show 0 < 512 by decide)
    | some x =>
      obtain ⟨k, u⟩ := x
      obtain ⟨k1, k2, k3⟩ := g_b_in e
      have := (v_G_lt h (v_a_w h hs k2 true)).2
      have e2 : g_B (some (k, u)) = 32 * k + u := rfl
      rw [e2]
      omega
  have wnd : ∀ i, g_W (g_b (v_can E s) (fun m => (v_G E (v_a E s m true)).2) (s_t s) i) (s_t s) < 9 := fun i => by
    cases g_b (v_can E s) (fun m => (v_G E (v_a E s m true)).2) (s_t s) i with
    | none => exact (show 8 < 9 by decide)
    | some x => exact Nat.lt_trans (u_w_lt _ _) (by decide)
  have fin : ∀ (N : QM), AF N E c0 c1 → MA N a → GA N E g → kp SG M N → qW (fX3_settle_b147 rc N (nI (s_s s)) (nI (v_K E s))) (fun r N1 => r = nI (v_K E s) ∧ AF N1 E c0 c1 ∧ MA N1 a ∧ GA N1 E g ∧ kp SG M N1) := fun N A mA G k => by
    have eo : nI (g * 512) ||| nI (v_K E s) = nI (g * 512 + v_K E s) := by
      rw [Int32.or_comm]
      have := nI_orS (a := v_K E s) (b := g) (k := 9) hK
      rw [this]
      congr 1
      omega
    unfold fX3_settle_b147
    simp (disch := omega) only [y_lit, y_lt_T, y_lt_F, y_le_T, y_le_F, y_eq_T, y_eq_F, y_in_T, y_cl, ↓reduceIte, y_bs, y_bvs, y_os, y_on, y_t, ne_eq, not_true_eq_false, not_false_eq_true, pk_mul, nI_add, G.1, y_shl9, eo]
    have k2 : kp (fun x j => x = 5 ∧ j = 0) N (p_a N 5 0 (s_s s) (nI (g * 512 + v_K E s))) := kp_a ⟨rfl, rfl⟩
    exact qW_s ⟨rfl, A.kept k2 (fun x j z => Or.inl z.1), mA.kept k2 (by decide) (by decide), GA.put h G hg hs h0, k.tr (k2.wd (fun x j z => Or.inr z))⟩
  have done : ∀ i, g_b (v_can E s) (fun m => (v_G E (v_a E s m true)).2) (s_t s) i = g_b (v_can E s) (fun m => (v_G E (v_a E s m true)).2) (s_t s) 11 → g_B (g_b (v_can E s) (fun m => (v_G E (v_a E s m true)).2) (s_t s) i) = v_K E s := fun i e => by
    rw [e, hGb]
    rfl
  intro n
  induction n with
  | zero =>
    intro i q N hi hq A mA G k
    obtain ⟨q, rfl⟩ : ∃ p, q = p + 1 := ⟨q - 1, by omega⟩
    have e : i = 11 := hi
    subst e
    rw [done 11 rfl]
    simp (disch := omega) only [fX3_settle_b69, y_lit, y_lt_T, y_lt_F, y_le_T, y_le_F, y_eq_T, y_eq_F, y_in_T, y_cl, ↓reduceIte, y_bs, y_bvs, y_os, y_on, y_t, ne_eq, not_true_eq_false, not_false_eq_true, pk_mul, nI_add]
    exact fin N A mA G k
  | succ n ih =>
    intro i q N hi hq A mA G k
    obtain ⟨q, rfl⟩ : ∃ p, q = p + 1 := ⟨q - 1, by omega⟩
    have wi := wnd i
    by_cases cw : g_W (g_b (v_can E s) (fun m => (v_G E (v_a E s m true)).2) (s_t s) i) (s_t s) = 0
    · have := g_b_stop cw (11 - i)
      rw [show i + (11 - i) = 11 by omega] at this
      rw [done i this.symm, cw]
      simp (disch := omega) only [fX3_settle_b69, y_lit, y_lt_T, y_lt_F, y_le_T, y_le_F, y_eq_T, y_eq_F, y_in_T, y_cl, ↓reduceIte, y_bs, y_bvs, y_os, y_on, y_t, ne_eq, not_true_eq_false, not_false_eq_true, pk_mul, nI_add]
      exact fin N A mA G k
    · have eb : g_b (v_can E s) (fun m => (v_G E (v_a E s m true)).2) (s_t s) (i + 1) = if v_can E s i then (match g_b (v_can E s) (fun m => (v_G E (v_a E s m true)).2) (s_t s) i with
          | none => some (i, (v_G E (v_a E s i true)).2)
          | some (k, u) => if u_w (v_G E (v_a E s i true)).2 (s_t s) < u_w u (s_t s) then some (i, (v_G E (v_a E s i true)).2) else some (k, u)) else g_b (v_can E s) (fun m => (v_G E (v_a E s m true)).2) (s_t s) i := rfl
      have nx := ih (i + 1) q
      by_cases c : v_can E s i = true
      · rw [if_pos c] at eb
        have al := sX0_allows h A hs.1 (show i < 11 by omega)
        rw [if_pos c] at al
        obtain ⟨_, N1, e1, rfl, A1, m1, k1⟩ := sX0_after h A mA (by omega) hs c true
        have G1 := G.kept k1 (fun j z => by unfold SA at z; omega)
        obtain ⟨_, N2, e2, rfl, A2, m2, G2, k2⟩ := hrc N1 i c A1 m1 G1
        have l2 := (v_G_lt h (v_a_w h hs c true))
        have e31 : v_K E (v_a E s i true) % 32 = (v_G E (v_a E s i true)).2 := by
          unfold v_K
          omega
        have hK2 : v_K E (v_a E s i true) < 512 := by
          unfold v_K
          omega
        have q31 : nI (v_K E (v_a E s i true)) &&& nI 31 = nI (v_G E (v_a E s i true)).2 := by rw [y_and31 (by omega), e31]
        have kk : kp SG M N2 := (k.tr (k1.wd (fun x j z => Or.inl z))).tr k2
        have wO := sX3_worthOf N2 l2.2 ht
        have go : ∀ B W : Nat, B = g_B (g_b (v_can E s) (fun m => (v_G E (v_a E s m true)).2) (s_t s) (i + 1)) → W = g_W (g_b (v_can E s) (fun m => (v_G E (v_a E s m true)).2) (s_t s) (i + 1)) (s_t s) → qW (fX3_settle_b141 rc (fun M x2 x3 x4 x5 x6 x7 x8 => fX3_settle_b69 rc q M x2 x3 x4 x5 x6 x7 x8) N2 (s_p s) (nI d) (nI (s_s s)) (nI (s_t s)) (nI B) (nI W) (nI i)) (fun r N1 => r = nI (v_K E s) ∧ AF N1 E c0 c1 ∧ MA N1 a ∧ GA N1 E g ∧ kp SG M N1) := fun B W eB eW => by
          subst eB
          subst eW
          unfold fX3_settle_b141
          simp only [y_lit, nI_add]
          exact nx N2 (by omega) (by omega) A2 m2 G2 kk
        have e1' : fX0_after N (s_p s) (nI i) (nI 1) = some (s_p (v_a E s i true), N1) := e1
        rw [fX3_settle_b69]
        simp (disch := omega) only [y_lit, y_lt_T, y_lt_F, y_le_T, y_le_F, y_eq_T, y_eq_F, y_in_T, y_cl, ↓reduceIte, y_bs, y_bvs, y_os, y_on, y_t, ne_eq, not_true_eq_false, not_false_eq_true, pk_mul, nI_add]
        rw [al]
        simp (disch := omega) only [y_lit, y_lt_T, y_lt_F, y_le_T, y_le_F, y_eq_T, y_eq_F, y_in_T, y_cl, ↓reduceIte, y_bs, y_bvs, y_os, y_on, y_t, ne_eq, not_true_eq_false, not_false_eq_true, pk_mul, nI_add]
        rw [e1']
        simp (disch := omega) only [y_lit, y_lt_T, y_lt_F, y_le_T, y_le_F, y_eq_T, y_eq_F, y_in_T, y_cl, ↓reduceIte, y_bs, y_bvs, y_os, y_on, y_t, ne_eq, not_true_eq_false, not_false_eq_true, pk_mul, nI_add]
        rw [e2]
        simp (disch := omega) only [y_lit, y_lt_T, y_lt_F, y_le_T, y_le_F, y_eq_T, y_eq_F, y_in_T, y_cl, ↓reduceIte, y_bs, y_bvs, y_os, y_on, y_t, ne_eq, not_true_eq_false, not_false_eq_true, pk_mul, nI_add, q31]
        rw [wO]
        have uw := u_w_lt (v_G E (v_a E s i true)).2 (s_t s)
        have eor : nI (i * 32) ||| nI (v_G E (v_a E s i true)).2 = nI (32 * i + (v_G E (v_a E s i true)).2) := by
          rw [Int32.or_comm]
          have := nI_orS (a := (v_G E (v_a E s i true)).2) (b := i) (k := 5) (by omega)
          rw [this]
          congr 1
          omega
        cases eG : g_b (v_can E s) (fun m => (v_G E (v_a E s m true)).2) (s_t s) i with
        | none =>
          rw [eG] at eb
          have eb : g_b (v_can E s) (fun m => (v_G E (v_a E s m true)).2) (s_t s) (i + 1) = some (i, (v_G E (v_a E s i true)).2) := eb
          have f := go (32 * i + (v_G E (v_a E s i true)).2) (u_w (v_G E (v_a E s i true)).2 (s_t s)) (by rw [eb]; rfl) (by rw [eb]; rfl)
          simp (disch := omega) only [y_lit, y_lt_T, y_lt_F, y_le_T, y_le_F, y_eq_T, y_eq_F, y_in_T, y_cl, ↓reduceIte, y_bs, y_bvs, y_os, y_on, y_t, ne_eq, not_true_eq_false, not_false_eq_true, pk_mul, nI_add, g_W, y_shl5, eor]
          exact f
        | some x =>
          obtain ⟨k3, u3⟩ := x
          rw [eG] at eb
          have eb : g_b (v_can E s) (fun m => (v_G E (v_a E s m true)).2) (s_t s) (i + 1) = if u_w (v_G E (v_a E s i true)).2 (s_t s) < u_w u3 (s_t s) then some (i, (v_G E (v_a E s i true)).2) else some (k3, u3) := eb
          have uw3 := u_w_lt u3 (s_t s)
          by_cases c3 : u_w (v_G E (v_a E s i true)).2 (s_t s) < u_w u3 (s_t s)
          · rw [if_pos c3] at eb
            have f := go (32 * i + (v_G E (v_a E s i true)).2) (u_w (v_G E (v_a E s i true)).2 (s_t s)) (by rw [eb]; rfl) (by rw [eb]; rfl)
            simp (disch := omega) only [y_lit, y_lt_T, y_lt_F, y_le_T, y_le_F, y_eq_T, y_eq_F, y_in_T, y_cl, ↓reduceIte, y_bs, y_bvs, y_os, y_on, y_t, ne_eq, not_true_eq_false, not_false_eq_true, pk_mul, nI_add, g_W, y_shl5, eor]
            exact f
          · rw [if_neg c3] at eb
            have f := go (g_B (some (k3, u3))) (u_w u3 (s_t s)) (by rw [eb]) (by rw [eb]; rfl)
            simp (disch := omega) only [y_lit, y_lt_T, y_lt_F, y_le_T, y_le_F, y_eq_T, y_eq_F, y_in_T, y_cl, ↓reduceIte, y_bs, y_bvs, y_os, y_on, y_t, ne_eq, not_true_eq_false, not_false_eq_true, pk_mul, nI_add, g_W, y_shl5, eor]
            exact f
      · rw [if_neg c] at eb
        rw [eb] at nx
        have al := sX0_allows h A hs.1 (show i < 11 by omega)
        rw [if_neg c] at al
        rw [fX3_settle_b69]
        simp (disch := omega) only [y_lit, y_lt_T, y_lt_F, y_le_T, y_le_F, y_eq_T, y_eq_F, y_in_T, y_cl, ↓reduceIte, y_bs, y_bvs, y_os, y_on, y_t, ne_eq, not_true_eq_false, not_false_eq_true, pk_mul, nI_add]
        rw [al]
        simp (disch := omega) only [fX3_settle_b141, y_lit, y_lt_T, y_lt_F, y_le_T, y_le_F, y_eq_T, y_eq_F, y_in_T, y_cl, ↓reduceIte, y_bs, y_bvs, y_os, y_on, y_t, ne_eq, not_true_eq_false, not_false_eq_true, pk_mul, nI_add]
        exact nx N (by omega) (by omega) A mA G k
theorem sX3_settle (h : v_ok nc E) (ha : a < 2000000000) (hg : g < 4000000) : ∀ (l f d : Nat) (M : QM) (s : ST), v_w E s → (s_e s = 0 → s_l s ≤ l) → l < f → d + l ≤ 9 → AF M E c0 c1 → MA M a → GA M E g →
    qW (fX3_settle f M (s_p s) (nI d)) (fun r N1 => r = nI (v_K E s) ∧ AF N1 E c0 c1 ∧ MA N1 a ∧ GA N1 E g ∧ kp SG M N1) := by
  intro l
  induction l with
  | zero =>
    intro f d M s hs hl hf hd A mA G
    obtain ⟨f, rfl⟩ : ∃ p, f = p + 1 := ⟨f - 1, by omega⟩
    have he : s_e s < 5 := hs.1.2.2.2.2.2.1
    have c : ¬ s_e s = 0 := fun z => by
      have := (hs.2 z).2.1
      have := hl z
      omega
    rw [fX3_settle, fX3_settle_b0, sX7_ending M hs.1]
    simp (disch := omega) only [y_lit, y_lt_T, y_lt_F, y_le_T, y_le_F, y_eq_T, y_eq_F, y_in_T, y_cl, ↓reduceIte, y_bs, y_bvs, y_os, y_on, y_t, ne_eq, not_true_eq_false, not_false_eq_true, pk_mul, nI_add, fX3_settle_b13, sX7_outcome M hs.1]
    refine qW_s ⟨?_, A, mA, G, kp.rf⟩
    unfold v_K
    rw [v_G_e c]
    show _ = nI (32 * 0 + s_u s)
    congr 1
    omega
  | succ l ih =>
    intro f d M s hs hl hf hd A mA G
    obtain ⟨f, rfl⟩ : ∃ p, f = p + 1 := ⟨f - 1, by omega⟩
    have he : s_e s < 5 := hs.1.2.2.2.2.2.1
    by_cases c : s_e s = 0
    · have hsl := s_sl hs.1
      have ht : s_t s < 2 := hs.1.2.2.2.1
      have hl0 := (hs.2 c).2.1
      obtain ⟨b, hb, eb⟩ := G.2.1 _ hsl
      rw [fX3_settle, fX3_settle_b0, sX7_ending M hs.1]
      simp (disch := omega) only [y_lit, y_lt_T, y_lt_F, y_le_T, y_le_F, y_eq_T, y_eq_F, y_in_T, y_cl, ↓reduceIte, y_bs, y_bvs, y_os, y_on, y_t, ne_eq, not_true_eq_false, not_false_eq_true, pk_mul, nI_add]
      rw [sX7_spot M hs.1]
      simp (disch := omega) only [y_lit, y_lt_T, y_lt_F, y_le_T, y_le_F, y_eq_T, y_eq_F, y_in_T, y_cl, ↓reduceIte, y_bs, y_bvs, y_os, y_on, y_t, ne_eq, not_true_eq_false, not_false_eq_true, pk_mul, nI_add, eb, y_shr9, G.1]
      by_cases cb : b / 512 = g
      · have := G.2.2 s hs c b hb eb cb
        simp (disch := omega) only [y_lit, y_lt_T, y_lt_F, y_le_T, y_le_F, y_eq_T, y_eq_F, y_in_T, y_cl, ↓reduceIte, y_bs, y_bvs, y_os, y_on, y_t, ne_eq, not_true_eq_false, not_false_eq_true, pk_mul, nI_add, y_and511, this]
        exact qW_s ⟨rfl, A, mA, G, kp.rf⟩
      · simp (disch := omega) only [y_lit, y_lt_T, y_lt_F, y_le_T, y_le_F, y_eq_T, y_eq_F, y_in_T, y_cl, ↓reduceIte, y_bs, y_bvs, y_os, y_on, y_t, ne_eq, not_true_eq_false, not_false_eq_true, pk_mul, nI_add]
        rw [sX7_turn M hs.1]
        simp (disch := omega) only [y_lit, y_lt_T, y_lt_F, y_le_T, y_le_F, y_eq_T, y_eq_F, y_in_T, y_cl, ↓reduceIte, y_bs, y_bvs, y_os, y_on, y_t, ne_eq, not_true_eq_false, not_false_eq_true, pk_mul, nI_add]
        exact sX3_settle_b69 h ha hg hs c (by omega) (fun N m hc A1 m1 G1 => ih f (d + 1) N _ (v_a_w h hs hc true) (fun z => by rw [v_a_l z]; have := hl c; omega) (by omega) (by omega) A1 m1 G1) 11 0 q_F M (by decide) (q_Fn (by decide)) A mA G kp.rf
    · rw [fX3_settle, fX3_settle_b0, sX7_ending M hs.1]
      simp (disch := omega) only [y_lit, y_lt_T, y_lt_F, y_le_T, y_le_F, y_eq_T, y_eq_F, y_in_T, y_cl, ↓reduceIte, y_bs, y_bvs, y_os, y_on, y_t, ne_eq, not_true_eq_false, not_false_eq_true, pk_mul, nI_add, fX3_settle_b13, sX7_outcome M hs.1]
      refine qW_s ⟨?_, A, mA, G, kp.rf⟩
      unfold v_K
      rw [v_G_e c]
      show _ = nI (32 * 0 + s_u s)
      congr 1
      omega
theorem sX3_outcomeFrom (h : v_ok nc E) (ha : a < 2000000000) (hg : g < 4000000) {s : ST} (hs : v_w E s) (A : AF M E c0 c1) (mA : MA M a) (G : GA M E g) : qW (fX3_outcomeFrom M (s_p s)) (fun r N1 => r = nI (v_G E s).2 ∧ AF N1 E c0 c1 ∧ MA N1 a ∧ GA N1 E g ∧ kp SG M N1) := by
  have hh := v_h_le h
  obtain ⟨_, N, e, rfl, A1, m1, G1, k1⟩ := sX3_settle h ha hg 8 12 0 M s hs (fun z => by have := (hs.2 z).2.2.1; omega) (by decide) (by decide) A mA G
  have hlt := v_G_lt h hs
  have hK : v_K E s < 512 := by
    unfold v_K
    omega
  have e31 : v_K E s % 32 = (v_G E s).2 := by
    unfold v_K
    omega
  have e' : fX3_settle 12 M (s_p s) 0 = some (nI (v_K E s), N) := e
  unfold fX3_outcomeFrom
  rw [e', q_b_s]
  simp (disch := omega) only [y_lit, y_lt_T, y_lt_F, y_le_T, y_le_F, y_eq_T, y_eq_F, y_in_T, y_cl, ↓reduceIte, y_bs, y_bvs, y_os, y_on, y_t, ne_eq, not_true_eq_false, not_false_eq_true, pk_mul, nI_add, y_and31, e31]
  exact qW_s ⟨rfl, A1, m1, G1, k1⟩
theorem sX3_moveFrom (h : v_ok nc E) (ha : a < 2000000000) (hg : g < 4000000) {s : ST} (hs : v_w E s) (A : AF M E c0 c1) (mA : MA M a) (G : GA M E g) : qW (fX3_moveFrom M (s_p s)) (fun r N1 => r = nI (v_G E s).1 ∧ AF N1 E c0 c1 ∧ MA N1 a ∧ GA N1 E g ∧ kp SG M N1) := by
  have hh := v_h_le h
  obtain ⟨_, N, e, rfl, A1, m1, G1, k1⟩ := sX3_settle h ha hg 8 12 0 M s hs (fun z => by have := (hs.2 z).2.2.1; omega) (by decide) (by decide) A mA G
  have hlt := v_G_lt h hs
  have hK : v_K E s < 512 := by
    unfold v_K
    omega
  have e32 : v_K E s / 32 = (v_G E s).1 := by
    unfold v_K
    omega
  have e' : fX3_settle 12 M (s_p s) 0 = some (nI (v_K E s), N) := e
  unfold fX3_moveFrom
  rw [e', q_b_s]
  simp (disch := omega) only [y_lit, y_lt_T, y_lt_F, y_le_T, y_le_F, y_eq_T, y_eq_F, y_in_T, y_cl, ↓reduceIte, y_bs, y_bvs, y_os, y_on, y_t, ne_eq, not_true_eq_false, not_false_eq_true, pk_mul, nI_add, y_shr5, e32]
  exact qW_s ⟨rfl, A1, m1, G1, k1⟩
/-- what was known counts no more -/
def MG (M : QM) (g : Nat) : Prop := q_i M 5 1 = nI g ∧ ∀ i, i < 4096 → ∃ b, b < 512 * (g + 1) ∧ q_a M 5 0 i = nI b
theorem sX3_begin (hG : MG M g) (hg : g < 4000000) (E : EV) : qV (fX3_begin M) (fun N => GA N E (g + 1) ∧ kp (fun x j => x = 5 ∧ j = 1) M N) := by
  unfold fX3_begin
  simp (disch := omega) only [y_lit, y_lt_T, y_lt_F, y_le_T, y_le_F, y_eq_T, y_eq_F, y_in_T, y_cl, ↓reduceIte, y_bs, y_bvs, y_os, y_on, y_t, ne_eq, not_true_eq_false, not_false_eq_true, pk_mul, nI_add, hG.1]
  refine qV_s ⟨⟨?_, fun i hi => ?_, fun s hs h0 b hb e eb => ?_⟩, kp_i ⟨rfl, rfl⟩⟩
  · rw [q_i_p_i, if_pos ⟨rfl, rfl⟩]
  · obtain ⟨b, hb, e⟩ := hG.2 i hi
    exact ⟨b, by omega, e⟩
  · obtain ⟨b2, hb2, e2⟩ := hG.2 _ (s_sl hs.1)
    have e : q_a M 5 0 (s_s s) = nI b := e
    rw [e2] at e
    have := (nI_eq (by omega) (by omega)).mp e
    omega
theorem GA.m (h : GA M E g) : MG M g := ⟨h.1, h.2.1⟩
end SETTLE
