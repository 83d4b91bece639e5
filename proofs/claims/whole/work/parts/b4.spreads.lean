/-! the reference's layers: places, marks -/
def SV (a j : Nat) : Prop := a = 1000 ∧ ((14 ≤ j ∧ j ≤ 24) ∨ (30 ≤ j ∧ j ≤ 41))
theorem SD_V {a j : Nat} (h : SD a j) : SV a j := by
  unfold SD at h
  unfold SV
  omega
theorem SV_2 {a j : Nat} (h : SV a j) : S2 a j := by
  unfold SV at h
  unfold S2
  omega
theorem PY.keptV {S : Nat → Nat → Prop} {M N : QM} {E : EV} {c0 c1 : Nat} (P : PY M E c0 c1) (k : kp S M N) (hS : ∀ a j, S a j → SV a j) : PY N E c0 c1 := by
  have no : ∀ {j : Nat}, 25 ≤ j → j ≤ 29 → ¬ S 1000 j := fun h1 h2 z => by have z := hS _ _ z; unfold SV at z; omega
  obtain ⟨h1, h2, h3, h4, h5, h6, h7, h8⟩ := P
  refine ⟨h1, h2, h3.kept k (fun j z => by have z := hS _ _ z; unfold SV at z; omega), fun q hq => (h4 q hq).kept (k.wd (fun a j z => by have z := hS _ _ z; unfold SV at z; omega)), fun q hq => ?_, (k.i (no (by decide) (by decide))).trans h6, (k.i (no (by decide) (by decide))).trans h7, (k.i (no (by decide) (by decide))).trans h8⟩
  rw [k.a (no (by decide) (by decide)), k.a (no (by decide) (by decide))]
  exact h5 q hq
/-- the place of a state, and the state of a place -/
def s_pl (s : ST) : Nat := ((s_l s * 2 + s_t s) * 3 + s_k s) * 256 + 16 * s_o s 0 + s_o s 1
def s_up (x : Nat) : ST := (x / 16 % 16, x % 16, x / 256 / 6, x / 256 / 3 % 2, x / 256 % 3, 0, 0)
theorem s_up_pl {s : ST} (h : s_ok s) (h0 : s_e s = 0) (h1 : s_z s = 0) : s_up (s_pl s) = s := by
  obtain ⟨a, b, l, t, k, e, z⟩ := s
  have h0 : e = 0 := h0
  have h1 : z = 0 := h1
  subst h0
  subst h1
  have ha : a < 16 := h.1
  have hb : b < 16 := h.2.1
  have hl : l < 16 := h.2.2.1
  have ht : t < 2 := h.2.2.2.1
  have hk : k < 3 := h.2.2.2.2.1
  have e : s_pl (a, b, l, t, k, 0, 0) = ((l * 2 + t) * 3 + k) * 256 + 16 * a + b := rfl
  unfold s_up
  rw [e]
  have e1 : (((l * 2 + t) * 3 + k) * 256 + 16 * a + b) / 256 = (l * 2 + t) * 3 + k := by omega
  have e2 : ((l * 2 + t) * 3 + k) / 3 = l * 2 + t := by omega
  rw [e1, e2]
  congr 1
  · omega
  congr 1
  · omega
  congr 1
  · omega
  congr 1
  · omega
  congr 1
  omega
theorem s_pl_up {x : Nat} : s_pl (s_up x) = x := by
  show ((x / 256 / 6 * 2 + x / 256 / 3 % 2) * 3 + x / 256 % 3) * 256 + 16 * (x / 16 % 16) + x % 16 = x
  omega
theorem s_pl_b {s : ST} (h : s_ok s) : s_l s * 1536 ≤ s_pl s ∧ s_pl s < s_l s * 1536 + 1536 := by
  have ht : s_t s < 2 := h.2.2.2.1
  have hk : s_k s < 3 := h.2.2.2.2.1
  have h0 := s_ol h 0
  have h1 := s_ol h 1
  unfold s_pl
  omega
theorem y_sub1 (x k : Nat) : nI x + (nI k - nI 1) + nI 1 = nI (x + k) := by
  rw [Int32.add_assoc, Int32.sub_add_cancel, nI_add]
theorem y_div256 {n : Nat} (h : n < 2147483648) : nI n / nI 256 = nI (n / 256) := pk_div h (by decide) (by decide)
theorem y_div3 {n : Nat} (h : n < 2147483648) : nI n / nI 3 = nI (n / 3) := pk_div h (by decide) (by decide)
theorem y_div6 {n : Nat} (h : n < 2147483648) : nI n / nI 6 = nI (n / 6) := pk_div h (by decide) (by decide)
theorem y_rem3 {n : Nat} (h : n < 2147483648) : nI n - nI n / nI 3 * nI 3 = nI (n % 3) := pk_rem h (by decide) (by decide)
theorem y_b1 : vp_nar .boolean (nI 1) = nI 1 := rfl
theorem y_b0 : vp_nar .boolean (nI 0) = nI 0 := rfl
/-- the marks -/
def CM (M : QM) (c : Nat → Bool) : Prop := ∀ i, i < 13824 → q_a M 1000 36 i = nI (if c i then 1 else 0)
def CW (E : EV) (c : Nat → Bool) : Prop := ∀ i, c i = true → i < 13824 ∧ v_w E (s_up i)
/-- what can come of x is marked -/
def CC (E : EV) (c : Nat → Bool) (x : Nat) : Prop := c x = true → ∀ m, m < 11 → v_can E (s_up x) m = true → s_e (v_a E (s_up x) m true) = 0 → c (s_pl (v_a E (s_up x) m true)) = true
section SPREADS
variable {nc c0 c1 : Nat} {M : QM} {E : EV}
theorem sX12_place {s : ST} (R : RST M s) (hs : s_ok s) (h0 : s_e s = 0) : fX12_place M = some (nI (s_pl s), M) := by
  unfold fX12_place
  have e0 := R.1 0 (by decide)
  have e1 := R.1 1 (by decide)
  have e2 : (nI (s_l s) * nI 2 + nI (s_t s)) * nI 3 + (nI (s_k s) - nI 1) + nI 1 = nI ((s_l s * 2 + s_t s) * 3 + s_k s) := by
    rw [pk_mul, nI_add, pk_mul, y_sub1]
  rw [R.2.1 h0, R.2.2.1, R.2.2.2.1]
  simp (disch := omega) only [y_lit, y_t, e2, y_in_T, ↓reduceIte, y_cl, e0, e1]
  simp (disch := omega) only [pk_mul, nI_add]
  rfl
theorem sX12_goTo (M : QM) {x : Nat} (hx : x < 13824) : qV (fX12_goTo M (nI x)) (fun N => RST N (s_up x) ∧ kp (fun a j => a = 1000 ∧ 30 ≤ j ∧ j ≤ 35) M N) := by
  have r3 : nI (x / 256) - nI (x / 256 / 3 * 3) = nI (x / 256 % 3) := by rw [pk_sub (by omega), show x / 256 - x / 256 / 3 * 3 = x / 256 % 3 by omega]
  unfold fX12_goTo
  simp (disch := omega) only [y_lit, y_lt_T, y_lt_F, y_le_T, y_le_F, y_eq_T, y_eq_F, y_in_T, y_cl, ↓reduceIte, y_bs, y_bvs, y_os, y_on, y_t, ne_eq, not_true_eq_false, not_false_eq_true, pk_mul, nI_add, y_and15, y_shr4, y_div256, y_div3, y_rem2, y_div6, r3]
  refine qV_s ⟨⟨fun q hq => ?_, fun _ => ?_, ?_, ?_, ?_, ?_⟩, ?_⟩
  · match q, hq with
    | 0, _ => simp [q_a_p_i, q_a_p_a]; rfl
    | 1, _ => simp [q_a_p_i, q_a_p_a]; rfl
  · simp [q_i_p_i, q_i_p_a]; rfl
  · simp [q_i_p_i, q_i_p_a]; rfl
  · simp [q_i_p_i, q_i_p_a]; rfl
  · simp [q_i_p_i, q_i_p_a]; rfl
  · simp [q_i_p_i, q_i_p_a]; rfl
  · refine kp.tr (kp.tr (kp.tr (kp.tr (kp.tr (kp.tr (kp_a ?_) (kp_a ?_)) (kp_i ?_)) (kp_i ?_)) (kp_i ?_)) (kp_i ?_)) (kp_i ?_) <;> exact ⟨rfl, by decide, by decide⟩
theorem sX12_forgets_b2 : ∀ (n i q : Nat) (N : QM), i + n = 13824 → n < q → (∀ k, k < i → q_a N 1000 36 k = nI 0) → kp (fun a j => a = 1000 ∧ j = 36) M N → qV (fX12_forgets_b2 q N (nI i)) (fun N1 => (∀ k, k < 13824 → q_a N1 1000 36 k = nI 0) ∧ kp (fun a j => a = 1000 ∧ j = 36) M N1) := by
  intro n
  induction n with
  | zero =>
    intro i q N hi hq h k
    obtain ⟨q, rfl⟩ : ∃ p, q = p + 1 := ⟨q - 1, by omega⟩
    have e : i = 13824 := hi
    subst e
    simp (disch := omega) only [fX12_forgets_b2, y_lit, y_lt_T, y_lt_F, y_le_T, y_le_F, y_eq_T, y_eq_F, y_in_T, y_cl, ↓reduceIte, y_bs, y_bvs, y_os, y_on, y_t, ne_eq, not_true_eq_false, not_false_eq_true, pk_mul, nI_add]
    exact qV_s ⟨h, k⟩
  | succ n ih =>
    intro i q N hi hq h k
    obtain ⟨q, rfl⟩ : ∃ p, q = p + 1 := ⟨q - 1, by omega⟩
    simp (disch := omega) only [fX12_forgets_b2, y_lit, y_lt_T, y_lt_F, y_le_T, y_le_F, y_eq_T, y_eq_F, y_in_T, y_cl, ↓reduceIte, y_bs, y_bvs, y_os, y_on, y_t, ne_eq, not_true_eq_false, not_false_eq_true, pk_mul, nI_add, y_b0]
    refine ih (i + 1) q _ (by omega) (by omega) (fun j hj => ?_) (k.tr (kp_a ⟨rfl, rfl⟩))
    by_cases e : j = i
    · subst e
      exact y_ee
    · rw [y_ne e]
      exact h j (by omega)
theorem sX12_forgets (M : QM) : qV (fX12_forgets M) (fun N => CM N (fun _ => false) ∧ kp (fun a j => a = 1000 ∧ j = 36) M N) := by
  unfold fX12_forgets
  rw [nI0]
  refine (sX12_forgets_b2 13824 0 q_F M (by decide) (q_Fn (by decide)) (fun k hk => absurd hk (Nat.not_lt_zero k)) kp.rf).to (fun N g => ⟨fun i hi => ?_, g.2⟩)
  exact g.1 i hi
theorem CM.put {N : QM} {c : Nat → Bool} (h : CM N c) (x : Nat) : CM (p_a N 1000 36 x (nI 1)) (fU c x true) := fun i hi => by
  by_cases e : i = x
  · subst e
    rw [y_ee, fU_s, if_pos rfl]
  · rw [y_ne e, fU_n _ _ e]
    exact h i hi
theorem fU_mono {c : Nat → Bool} {x i : Nat} (h : c i = true) : fU c x true i = true := by
  by_cases e : i = x
  · subst e; exact fU_s _ _ _
  · rw [fU_n _ _ e]; exact h
/-- the moves at one place -/
theorem sX12_spreads_b25 (h : v_ok nc E) {x : Nat} (hx : x < 13824) (hw : v_w E (s_up x)) {K : QM → Int32 → Option QM} : ∀ (n i q : Nat) (N : QM) (c : Nat → Bool), i + n = 11 → n < q → PY N E c0 c1 → CM N c → CW E c → (∀ m, m < i → v_can E (s_up x) m = true → s_e (v_a E (s_up x) m true) = 0 → c (s_pl (v_a E (s_up x) m true)) = true) →
    ∃ N1 c1', fX12_spreads_b25 K q N (nI x) (nI i) = K N1 (nI x + -nI 1) ∧ CM N1 c1' ∧ CW E c1' ∧ (∀ b, c b = true → c1' b = true) ∧ (∀ b, x ≤ b → c1' b = c b) ∧ (∀ m, m < 11 → v_can E (s_up x) m = true → s_e (v_a E (s_up x) m true) = 0 → c1' (s_pl (v_a E (s_up x) m true)) = true) ∧ kp (fun a j => SD a j ∨ (a = 1000 ∧ j = 36)) N N1 := by
  intro n
  induction n with
  | zero =>
    intro i q N c hi hq P hc hcw hm
    obtain ⟨q, rfl⟩ : ∃ p, q = p + 1 := ⟨q - 1, by omega⟩
    have e : i = 11 := hi
    subst e
    refine ⟨N, c, ?_, hc, hcw, fun _ z => z, fun _ _ => rfl, hm, kp.rf⟩
    simp (disch := omega) only [fX12_spreads_b25, fX12_spreads_b76, y_lit, y_lt_T, y_lt_F, y_le_T, y_le_F, y_eq_T, y_eq_F, y_in_T, y_cl, ↓reduceIte, y_bs, y_bvs, y_os, y_on, y_t, ne_eq, not_true_eq_false, not_false_eq_true, pk_mul, nI_add]
  | succ n ih =>
    intro i q N c hi hq P hc hcw hm
    obtain ⟨q, rfl⟩ : ∃ p, q = p + 1 := ⟨q - 1, by omega⟩
    obtain ⟨N1, e1, R1, k1⟩ := sX12_goTo N hx
    have k1D : kp SD N N1 := k1.wd (fun a j z => ⟨z.1, Or.inr z.2⟩)
    have P1 := P.kept k1D (fun a j z => z)
    have cn := sX12_can P1 h R1 hw (show i < 11 by omega)
    have C1 : CM N1 c := fun j hj => (k1D.a (by unfold SD; omega)).trans (hc j hj)
    have step : ∀ (N2 : QM) (c2 : Nat → Bool), kp (fun a j => SD a j ∨ (a = 1000 ∧ j = 36)) N N2 → CM N2 c2 → CW E c2 → (∀ b, c b = true → c2 b = true) → (∀ b, x ≤ b → c2 b = c b) → (v_can E (s_up x) i = true → s_e (v_a E (s_up x) i true) = 0 → c2 (s_pl (v_a E (s_up x) i true)) = true) →
        ∃ N1 c1', fX12_spreads_b70 (fun M x1 x2 => fX12_spreads_b25 K q M x1 x2) K N2 (nI x) (nI i) = K N1 (nI x + -nI 1) ∧ CM N1 c1' ∧ CW E c1' ∧ (∀ b, c b = true → c1' b = true) ∧ (∀ b, x ≤ b → c1' b = c b) ∧ (∀ m, m < 11 → v_can E (s_up x) m = true → s_e (v_a E (s_up x) m true) = 0 → c1' (s_pl (v_a E (s_up x) m true)) = true) ∧ kp (fun a j => SD a j ∨ (a = 1000 ∧ j = 36)) N N1 := fun N2 c2 k2 C2 W2 mo eq hi2 => by
      have P2 := P.keptV (S := fun a j => SD a j ∨ (a = 1000 ∧ j = 36)) k2 (fun a j z => by
        rcases z with z | z
        · exact SD_V z
        · unfold SV; omega)
      obtain ⟨N3, c3, f1, f2, f3, f4, f5, f6, f7⟩ := ih (i + 1) q N2 c2 (by omega) (by omega) P2 C2 W2 (fun m hm2 hc2 he => by
        by_cases e : m = i
        · subst e
          exact hi2 hc2 he
        · exact mo _ (hm m (by omega) hc2 he))
      refine ⟨N3, c3, ?_, f2, f3, fun b z => f4 b (mo b z), fun b z => (f5 b z).trans (eq b z), f6, k2.tr f7⟩
      rw [← f1]
      simp only [fX12_spreads_b70, y_lit, nI_add]
    rw [fX12_spreads_b25]
    simp (disch := omega) only [y_lit, y_lt_T, y_lt_F, y_le_T, y_le_F, y_eq_T, y_eq_F, y_in_T, y_cl, ↓reduceIte, y_bs, y_bvs, y_os, y_on, y_t, ne_eq, not_true_eq_false, not_false_eq_true, pk_mul, nI_add]
    rw [e1]
    simp (disch := omega) only [y_lit, y_lt_T, y_lt_F, y_le_T, y_le_F, y_eq_T, y_eq_F, y_in_T, y_cl, ↓reduceIte, y_bs, y_bvs, y_os, y_on, y_t, ne_eq, not_true_eq_false, not_false_eq_true, pk_mul, nI_add]
    rw [cn]
    by_cases cc : v_can E (s_up x) i = true
    · obtain ⟨N2, e2, R2, k2⟩ := sX12_does P1 h R1 hw cc true
      have hwa := v_a_w h hw cc true
      have he5 : s_e (v_a E (s_up x) i true) < 5 := hwa.1.2.2.2.2.2.1
      have k12 : kp SD N N2 := k1D.tr k2
      have C2 : CM N2 c := fun j hj => (k12.a (by unfold SD; omega)).trans (hc j hj)
      have e2' : fX12_does N1 (nI i) (nI 1) = some N2 := e2
      simp (disch := omega) only [y_lit, y_lt_T, y_lt_F, y_le_T, y_le_F, y_eq_T, y_eq_F, y_in_T, y_cl, ↓reduceIte, y_bs, y_bvs, y_os, y_on, y_t, ne_eq, not_true_eq_false, not_false_eq_true, pk_mul, nI_add, cc, if_true]
      rw [e2']
      simp (disch := omega) only [y_lit, y_lt_T, y_lt_F, y_le_T, y_le_F, y_eq_T, y_eq_F, y_in_T, y_cl, ↓reduceIte, y_bs, y_bvs, y_os, y_on, y_t, ne_eq, not_true_eq_false, not_false_eq_true, pk_mul, nI_add, R2.2.2.2.2.1]
      by_cases c0' : s_e (v_a E (s_up x) i true) = 0
      · rw [sX12_place R2 hwa.1 c0']
        have hl := s_pl_b hwa.1
        have hlu := s_pl_b hw.1
        rw [s_pl_up] at hlu
        have hal := v_a_l c0'
        have wl := hwa.2 c0'
        have hh := v_h_le h
        have hlx := (hw.2 rfl).2.1
        have hp : s_pl (v_a E (s_up x) i true) < x := by omega
        have s1 := step (p_a N2 1000 36 (s_pl (v_a E (s_up x) i true)) (nI 1)) (fU c (s_pl (v_a E (s_up x) i true)) true) ((k12.wd (fun _ _ z => Or.inl z)).tr (kp_a (Or.inr ⟨rfl, rfl⟩))) (C2.put _) (fun b hb => by
          by_cases e : b = s_pl (v_a E (s_up x) i true)
          · subst e
            refine ⟨by omega, ?_⟩
            rw [s_up_pl hwa.1 c0' wl.1]
            exact hwa
          · rw [fU_n _ _ e] at hb
            exact hcw b hb) (fun b z => fU_mono z) (fun b z => fU_n _ _ (by omega)) (fun _ _ => fU_s _ _ _)
        simp (disch := omega) only [y_lit, y_lt_T, y_lt_F, y_le_T, y_le_F, y_eq_T, y_eq_F, y_in_T, y_cl, ↓reduceIte, y_bs, y_bvs, y_os, y_on, y_t, ne_eq, not_true_eq_false, not_false_eq_true, pk_mul, nI_add, y_b1]
        exact s1
      · have s1 := step N2 c (k12.wd (fun _ _ z => Or.inl z)) C2 hcw (fun _ z => z) (fun _ _ => rfl) (fun _ z => absurd z c0')
        simp (disch := omega) only [y_lit, y_lt_T, y_lt_F, y_le_T, y_le_F, y_eq_T, y_eq_F, y_in_T, y_cl, ↓reduceIte, y_bs, y_bvs, y_os, y_on, y_t, ne_eq, not_true_eq_false, not_false_eq_true, pk_mul, nI_add]
        exact s1
    · have s1 := step N1 c (k1D.wd (fun _ _ z => Or.inl z)) C1 hcw (fun _ z => z) (fun _ _ => rfl) (fun z => absurd z cc)
      simp (disch := omega) only [y_lit, y_lt_T, y_lt_F, y_le_T, y_le_F, y_eq_T, y_eq_F, y_in_T, y_cl, ↓reduceIte, y_bs, y_bvs, y_os, y_on, y_t, ne_eq, not_true_eq_false, not_false_eq_true, pk_mul, nI_add, cc, if_false, Bool.false_eq_true]
      exact s1
theorem sX12_spreads_b4 (h : v_ok nc E) : ∀ (n q : Nat) (N : QM) (c : Nat → Bool), n < 12289 → n < q → PY N E c0 c1 → CM N c → CW E c → (∀ b, 1535 + n < b → CC E c b) →
    qV (fX12_spreads_b4 q N (nI (1535 + n))) (fun N1 => ∃ c', CM N1 c' ∧ CW E c' ∧ (∀ b, c b = true → c' b = true) ∧ (∀ b, 1536 ≤ b → CC E c' b) ∧ kp (fun a j => SD a j ∨ (a = 1000 ∧ j = 36)) N N1) := by
  intro n
  induction n with
  | zero =>
    intro q N c hn hq P hc hcw hcc
    obtain ⟨q, rfl⟩ : ∃ p, q = p + 1 := ⟨q - 1, by omega⟩
    simp (disch := omega) only [fX12_spreads_b4, y_lit, y_lt_T, y_lt_F, y_le_T, y_le_F, y_eq_T, y_eq_F, y_in_T, y_cl, ↓reduceIte, y_bs, y_bvs, y_os, y_on, y_t, ne_eq, not_true_eq_false, not_false_eq_true, pk_mul, nI_add]
    exact qV_s ⟨c, hc, hcw, fun _ z => z, fun b hb => hcc b (by omega), kp.rf⟩
  | succ n ih =>
    intro q N c hn hq P hc hcw hcc
    obtain ⟨q, rfl⟩ : ∃ p, q = p + 1 := ⟨q - 1, by omega⟩
    have em : nI (1535 + (n + 1)) + -nI 1 = nI (1535 + n) := pk_m1 _
    have ec := hc (1535 + (n + 1)) (by omega)
    by_cases cx : c (1535 + (n + 1)) = true
    · have hw := (hcw _ cx).2
      obtain ⟨N1, c1', f1, f2, f3, f4, f5, f6, f7⟩ := sX12_spreads_b25 h (x := 1535 + (n + 1)) (by omega) hw (K := fun M x1 => fX12_spreads_b4 q M x1) 11 0 q_F N c (by decide) (q_Fn (by decide)) P hc hcw (fun m z => absurd z (Nat.not_lt_zero m))
      rw [if_pos cx] at ec
      rw [em] at f1
      have P1 := P.keptV (S := fun a j => SD a j ∨ (a = 1000 ∧ j = 36)) f7 (fun a j z => by
        rcases z with z | z
        · exact SD_V z
        · unfold SV; omega)
      obtain ⟨N2, e2, c2, g1, g2, g3, g4, g5⟩ := ih q N1 c1' (by omega) (by omega) P1 f2 f3 (fun b hb => by
        by_cases e : b = 1535 + (n + 1)
        · subst e
          exact fun _ => f6
        · intro hb1 m hm hcan he
          rw [f5 b (by omega)] at hb1
          exact f4 _ (hcc b (by omega) hb1 m hm hcan he))
      refine ⟨N2, ?_, c2, g1, g2, fun b z => g3 b (f4 b z), g4, f7.tr g5⟩
      simp (disch := omega) only [fX12_spreads_b4, y_lit, y_lt_T, y_lt_F, y_le_T, y_le_F, y_eq_T, y_eq_F, y_in_T, y_cl, ↓reduceIte, y_bs, y_bvs, y_os, y_on, y_t, ne_eq, not_true_eq_false, not_false_eq_true, pk_mul, nI_add, ec]
      exact f1.trans e2
    · rw [if_neg cx] at ec
      obtain ⟨N2, e2, c2, g1, g2, g3, g4, g5⟩ := ih q N c (by omega) (by omega) P hc hcw (fun b hb => by
        by_cases e : b = 1535 + (n + 1)
        · subst e
          exact fun z => absurd z cx
        · exact hcc b (by omega))
      refine ⟨N2, ?_, c2, g1, g2, g3, g4, g5⟩
      simp (disch := omega) only [fX12_spreads_b4, fX12_spreads_b76, y_lit, y_lt_T, y_lt_F, y_le_T, y_le_F, y_eq_T, y_eq_F, y_in_T, y_cl, ↓reduceIte, y_bs, y_bvs, y_os, y_on, y_t, ne_eq, not_true_eq_false, not_false_eq_true, pk_mul, nI_add, ec, em]
      exact e2
theorem sX12_spreads (h : v_ok nc E) (P : PY M E c0 c1) {c : Nat → Bool} (hc : CM M c) (hcw : CW E c) : qV (fX12_spreads M) (fun N1 => ∃ c', CM N1 c' ∧ CW E c' ∧ (∀ b, c b = true → c' b = true) ∧ (∀ b, 1536 ≤ b → CC E c' b) ∧ kp (fun a j => SD a j ∨ (a = 1000 ∧ j = 36)) M N1) := by
  unfold fX12_spreads
  exact sX12_spreads_b4 h 12288 q_F M c (by decide) (q_Fn (by decide)) P hc hcw (fun b hb z => by have := (hcw b z).1; omega)
end SPREADS
