/-! pair: doubt -/
/-- a set of outcomes, over the subsets u of S that are such -/
def o_D (S : Nat) (p : Nat → Bool) (f : Nat → Nat) (b : Nat) : Nat → Nat
  | 0 => b
  | n + 1 => if n &&& S = n ∧ p n = true then o_D S p f b n ||| 2 ^ f n else o_D S p f b n
theorem o_D_bit {S : Nat} {p : Nat → Bool} {f : Nat → Nat} {b t : Nat} : ∀ n, (o_D S p f b n).testBit t = true ↔ (b.testBit t = true ∨ ∃ u, u < n ∧ u &&& S = u ∧ p u = true ∧ f u = t) := by
  intro n
  induction n with
  | zero => exact ⟨fun h => Or.inl h, fun h => h.elim id (fun ⟨u, h, _⟩ => absurd h (Nat.not_lt_zero u))⟩
  | succ n ih =>
    unfold o_D
    by_cases c : n &&& S = n ∧ p n = true
    · rw [if_pos c, Nat.testBit_or, Bool.or_eq_true, ih, Nat.testBit_two_pow]
      constructor
      · rintro ((h | ⟨u, h1, h2⟩) | h)
        · exact Or.inl h
        · exact Or.inr ⟨u, by omega, h2⟩
        · exact Or.inr ⟨n, by omega, c.1, c.2, of_decide_eq_true h⟩
      · rintro (h | ⟨u, h1, h2, h3, h4⟩)
        · exact Or.inl (Or.inl h)
        · by_cases e : u = n
          · subst e
            exact Or.inr (decide_eq_true h4)
          · exact Or.inl (Or.inr ⟨u, by omega, h2, h3, h4⟩)
    · rw [if_neg c, ih]
      constructor
      · rintro (h | ⟨u, h1, h2⟩)
        · exact Or.inl h
        · exact Or.inr ⟨u, by omega, h2⟩
      · rintro (h | ⟨u, h1, h2, h3, h4⟩)
        · exact Or.inl h
        · by_cases e : u = n
          · subst e
            exact absurd ⟨h2, h3⟩ c
          · exact Or.inr ⟨u, by omega, h2, h3, h4⟩
theorem o_D_lt {S : Nat} {p : Nat → Bool} {f : Nat → Nat} {b : Nat} (hb : b < 2 ^ 20) (hf : ∀ u, f u < 20) : ∀ n, o_D S p f b n < 2 ^ 20 := by
  intro n
  induction n with
  | zero => exact hb
  | succ n ih =>
    unfold o_D
    split
    · exact Nat.or_lt_two_pow ih (Nat.pow_lt_pow_right (by decide) (hf n))
    · exact ih
theorem sub_zero {u S : Nat} (hu : u < 512) (hS : S < 512) : (nI u &&& (nI S ^^^ -nI 1)) = nI 0 ↔ u &&& S = u := by
  have h1 : (-nI 1 : Int32) = -1 := rfl
  rw [h1, nI_andn (show u < 2 ^ 24 by omega)]
  have hlt : u &&& (2 ^ 24 - 1 ^^^ S) < 2 ^ 24 := Nat.lt_of_le_of_lt Nat.and_le_left (by omega)
  rw [nI_eq (by omega) (by decide)]
  constructor
  · intro h
    apply Nat.eq_of_testBit_eq
    intro i
    have hi := congrArg (fun x => x.testBit i) h
    simp only [Nat.testBit_and, Nat.testBit_xor, Nat.testBit_two_pow_sub_one, Nat.zero_testBit] at hi
    rw [Nat.testBit_and]
    by_cases c : i < 24
    · rw [decide_eq_true c] at hi
      cases a : u.testBit i <;> cases b : S.testBit i <;> simp_all
    · have : u.testBit i = false := Nat.testBit_lt_two_pow (Nat.lt_of_lt_of_le hu (show 2 ^ 9 ≤ 2 ^ i from Nat.pow_le_pow_right (by decide) (by omega)))
      rw [this]
      rfl
  · intro h
    apply Nat.eq_of_testBit_eq
    intro i
    have hi := congrArg (fun x => x.testBit i) h
    simp only [Nat.testBit_and] at hi
    rw [Nat.testBit_and, Nat.testBit_xor, Nat.testBit_two_pow_sub_one, Nat.zero_testBit]
    by_cases c : i < 24
    · rw [decide_eq_true c]
      cases a : u.testBit i <;> cases b : S.testBit i <;> simp_all
    · have : u.testBit i = false := Nat.testBit_lt_two_pow (Nat.lt_of_lt_of_le hu (show 2 ^ 9 ≤ 2 ^ i from Nat.pow_le_pow_right (by decide) (by omega)))
      rw [this]
      rfl
section DOUBT
variable {nc k c0 c1 : Nat} {M M1 M2 : QM} {B : BK} {Cs : Nat → CD} {E : EV}
/-- the outcome, some moves not heard -/
def v_U (E : EV) (Q : QR) (u : Nat) : Nat := (v_G E (v_hD E Q u)).2
theorem v_U_lt (h : v_ok nc E) (Q : QR) (u : Nat) : v_U E Q u < 20 := (v_G_lt h (v_hD_w h Q u)).2
theorem sX11_doubt_b57 {a g S : Nat} (h : v_ok nc E) (ha : a < 2000000000) (hg : g < 1000000) {o : Nat} (ho : 100 ≤ o) {Q : QR} (hR : RQ1 M o Q) (hn0 : 0 < r_n Q) (hn : r_n Q ≤ 9) (hm : ∀ k, k < r_n Q → r_m Q k < 11) (hm0 : r_m Q 0 < 4) (hS : S < 512) : ∀ (n i q : Nat) (N : QM), i + n = S + 1 → n < q → AF N E c0 c1 → MA N a → GA N E g → kp SG M N →
    qW (fX11_doubt_b57 q N o (nI S) (nI (o_D S (fun _ => true) (v_U E Q) 0 i)) (nI i)) (fun r N1 => r = nI (o_D S (fun _ => true) (v_U E Q) 0 (S + 1)) ∧ MA N1 a ∧ GA N1 E g ∧ kp SG M N1) := by
  intro n
  induction n with
  | zero =>
    intro i q N hi hq A hA G kN
    obtain ⟨q, rfl⟩ : ∃ p, q = p + 1 := ⟨q - 1, by omega⟩
    have e : i = S + 1 := hi
    subst e
    simp (disch := omega) only [fX11_doubt_b57, y_lit, y_lt_T, y_lt_F, y_le_T, y_le_F, y_eq_T, y_eq_F, y_in_T, y_cl, ↓reduceIte, y_bs, y_bvs, y_os, y_on, y_t, ne_eq, not_true_eq_false, not_false_eq_true, pk_mul, nI_add]
    exact qW_s ⟨rfl, hA, G, kN⟩
  | succ n ih =>
    intro i q N hi hq A hA G kN
    obtain ⟨q, rfl⟩ : ∃ p, q = p + 1 := ⟨q - 1, by omega⟩
    have hRN : RQ1 N o Q := hR.kept kN (fun j z => by unfold SG SA at z; omega)
    have eD : o_D S (fun _ => true) (v_U E Q) 0 (i + 1) = if i &&& S = i ∧ true = true then o_D S (fun _ => true) (v_U E Q) 0 i ||| 2 ^ v_U E Q i else o_D S (fun _ => true) (v_U E Q) 0 i := rfl
    have nx := ih (i + 1) q
    have sz := sub_zero (show i < 512 by omega) hS
    by_cases c : i &&& S = i
    · have hz := sz.mpr c
      rw [if_pos ⟨c, rfl⟩] at eD
      rw [eD] at nx
      obtain ⟨_, N2, e2, rfl, A2, m2, k2⟩ := sX0_heard h A hA (by omega) ho hRN hn0 hn hm hm0 (show i < 512 by omega)
      have hw := v_hD_w h Q i
      obtain ⟨_, N3, e3, rfl, A3, m3, G3, k3⟩ := sX3_outcomeFrom h ha (by omega) hw A2 m2 (G.kept k2 (fun j z => by unfold SA at z; omega))
      have l2 := v_U_lt h Q i
      have e3' : fX3_outcomeFrom N2 (s_p (v_hD E Q i)) = some (nI (v_U E Q i), N3) := e3
      rw [fX11_doubt_b57]
      simp (disch := omega) only [y_lit, y_lt_T, y_lt_F, y_le_T, y_le_F, y_eq_T, y_eq_F, y_in_T, y_cl, ↓reduceIte, y_bs, y_bvs, y_os, y_on, y_t, ne_eq, not_true_eq_false, not_false_eq_true, pk_mul, nI_add, hz]
      rw [e2]
      simp (disch := omega) only [y_lit, y_lt_T, y_lt_F, y_le_T, y_le_F, y_eq_T, y_eq_F, y_in_T, y_cl, ↓reduceIte, y_bs, y_bvs, y_os, y_on, y_t, ne_eq, not_true_eq_false, not_false_eq_true, pk_mul, nI_add]
      rw [e3']
      simp (disch := omega) only [y_lit, y_lt_T, y_lt_F, y_le_T, y_le_F, y_eq_T, y_eq_F, y_in_T, y_cl, ↓reduceIte, y_bs, y_bvs, y_os, y_on, y_t, ne_eq, not_true_eq_false, not_false_eq_true, pk_mul, nI_add, y_b31, nI_or, fX11_doubt_b102]
      exact nx N3 (by omega) (by omega) A3 m3 G3 ((kN.tr (k2.wd (fun x j z => Or.inl z))).tr k3)
    · have hz : ¬ (nI i &&& (nI S ^^^ -nI 1)) = nI 0 := fun z => c (sz.mp z)
      rw [if_neg (fun z => c z.1)] at eD
      rw [eD] at nx
      rw [fX11_doubt_b57]
      simp (disch := omega) only [y_lit, y_lt_T, y_lt_F, y_le_T, y_le_F, y_eq_T, y_eq_F, y_in_T, y_cl, ↓reduceIte, y_bs, y_bvs, y_os, y_on, y_t, ne_eq, not_true_eq_false, not_false_eq_true, pk_mul, nI_add, hz, fX11_doubt_b102]
      exact nx N (by omega) (by omega) A hA G kN
/-- the reference's first pass: places are marked -/
theorem sX12_doubt_b44 (h2 : K2 M nc B Cs) (ok : KO nc B Cs) {q : Nat} (hq : q < b_q B) {U : Nat} (hU : U < 512) {D : Nat}
    (hD : ∀ (N : QM) (c : Nat → Bool), CM N c → CW (eQ B Cs (b_r B q)) c → PY N (eQ B Cs (b_r B q)) (r_c (b_r B q) 0) (r_c (b_r B q) 1) → kp S2 M N → (∀ u, u ≤ U → u &&& U = u → s_e (v_hD (eQ B Cs (b_r B q)) (b_r B q) u) = 0 → c (s_pl (v_hD (eQ B Cs (b_r B q)) (b_r B q) u)) = true) →
      qW (fX12_doubt_b104 N (nI q) (nI U) (nI (o_D U (fun u => decide (¬ s_e (v_hD (eQ B Cs (b_r B q)) (b_r B q) u) = 0)) (v_U (eQ B Cs (b_r B q)) (b_r B q)) 0 (U + 1)))) (fun r N1 => r = nI D ∧ kp S2 M N1)) :
    ∀ (n i f : Nat) (N : QM) (c : Nat → Bool), i + n = U + 1 → n < f → kp S2 M N → CM N c → CW (eQ B Cs (b_r B q)) c → (0 < i → PY N (eQ B Cs (b_r B q)) (r_c (b_r B q) 0) (r_c (b_r B q) 1)) → (∀ u, u < i → u &&& U = u → s_e (v_hD (eQ B Cs (b_r B q)) (b_r B q) u) = 0 → c (s_pl (v_hD (eQ B Cs (b_r B q)) (b_r B q) u)) = true) →
    qW (fX12_doubt_b44 f N (nI q) (nI U) (nI (o_D U (fun u => decide (¬ s_e (v_hD (eQ B Cs (b_r B q)) (b_r B q) u) = 0)) (v_U (eQ B Cs (b_r B q)) (b_r B q)) 0 i)) (nI i)) (fun r N1 => r = nI D ∧ kp S2 M N1) := by
  have hQ := ok.q hq
  have hv := ok.v hQ.b
  intro n
  induction n with
  | zero =>
    intro i f N c hi hf kN hc hcw hP hm
    obtain ⟨f, rfl⟩ : ∃ p, f = p + 1 := ⟨f - 1, by omega⟩
    have e : i = U + 1 := hi
    subst e
    have d := hD N c hc hcw (hP (by omega)) kN (fun u hu => hm u (by omega))
    rw [fX12_doubt_b44]
    simp (disch := omega) only [y_lit, y_lt_T, y_lt_F, y_le_T, y_le_F, y_eq_T, y_eq_F, y_in_T, y_cl, ↓reduceIte, y_bs, y_bvs, y_os, y_on, y_t, ne_eq, not_true_eq_false, not_false_eq_true, pk_mul, nI_add]
    exact d
  | succ n ih =>
    intro i f N c hi hf kN hc hcw hP hm
    obtain ⟨f, rfl⟩ : ∃ p, f = p + 1 := ⟨f - 1, by omega⟩
    have KN := h2.kept kN (fun x j z => z)
    have eD : o_D U (fun u => decide (¬ s_e (v_hD (eQ B Cs (b_r B q)) (b_r B q) u) = 0)) (v_U (eQ B Cs (b_r B q)) (b_r B q)) 0 (i + 1) = if i &&& U = i ∧ decide (¬ s_e (v_hD (eQ B Cs (b_r B q)) (b_r B q) i) = 0) = true then o_D U (fun u => decide (¬ s_e (v_hD (eQ B Cs (b_r B q)) (b_r B q) u) = 0)) (v_U (eQ B Cs (b_r B q)) (b_r B q)) 0 i ||| 2 ^ v_U (eQ B Cs (b_r B q)) (b_r B q) i else o_D U (fun u => decide (¬ s_e (v_hD (eQ B Cs (b_r B q)) (b_r B q) u) = 0)) (v_U (eQ B Cs (b_r B q)) (b_r B q)) 0 i := rfl
    have nx := ih (i + 1) f
    have sz := sub_zero (show i < 512 by omega) hU
    by_cases cs : i &&& U = i
    · have hz := sz.mpr cs
      obtain ⟨N2, e2, P2, R2, k2⟩ := sX12_again KN ok hq (show i < 512 by omega)
      have hw := v_hD_w hv (b_r B q) i
      have he5 : s_e (v_hD (eQ B Cs (b_r B q)) (b_r B q) i) < 5 := hw.1.2.2.2.2.2.1
      have kk : kp S2 M N2 := kN.tr (k2.wd (fun x j z => SDQ_2 z))
      have C2 : CM N2 c := fun j hj => (k2.a (by unfold SD SQ; omega)).trans (hc j hj)
      rw [fX12_doubt_b44]
      simp (disch := omega) only [y_lit, y_lt_T, y_lt_F, y_le_T, y_le_F, y_eq_T, y_eq_F, y_in_T, y_cl, ↓reduceIte, y_bs, y_bvs, y_os, y_on, y_t, ne_eq, not_true_eq_false, not_false_eq_true, pk_mul, nI_add, hz]
      rw [e2]
      simp (disch := omega) only [y_lit, y_lt_T, y_lt_F, y_le_T, y_le_F, y_eq_T, y_eq_F, y_in_T, y_cl, ↓reduceIte, y_bs, y_bvs, y_os, y_on, y_t, ne_eq, not_true_eq_false, not_false_eq_true, pk_mul, nI_add, R2.2.2.2.2.1]
      by_cases c0' : s_e (v_hD (eQ B Cs (b_r B q)) (b_r B q) i) = 0
      · have wl := hw.2 c0'
        have hh := v_h_le hv
        have hb := s_pl_b hw.1
        rw [if_neg (fun z => (of_decide_eq_true z.2) c0')] at eD
        rw [eD] at nx
        have kP : kp SV N2 (p_a N2 1000 36 (s_pl (v_hD (eQ B Cs (b_r B q)) (b_r B q) i)) (nI 1)) := kp_a (by unfold SV; omega)
        have f1 := nx (p_a N2 1000 36 (s_pl (v_hD (eQ B Cs (b_r B q)) (b_r B q) i)) (nI 1)) (fU c (s_pl (v_hD (eQ B Cs (b_r B q)) (b_r B q) i)) true) (by omega) (by omega) (kk.tr (kP.wd (fun x j z => SV_2 z))) (C2.put _) (fun b hb2 => by
          by_cases e : b = s_pl (v_hD (eQ B Cs (b_r B q)) (b_r B q) i)
          · subst e
            refine ⟨by omega, ?_⟩
            rw [s_up_pl hw.1 c0' wl.1]
            exact hw
          · rw [fU_n _ _ e] at hb2
            exact hcw b hb2) (fun _ => P2.keptV kP (fun a j z => z)) (fun u hu hs hu0 => by
          by_cases e : u = i
          · subst e
            exact fU_s _ _ _
          · exact fU_mono (hm u (by omega) hs hu0))
        simp (disch := omega) only [y_lit, y_lt_T, y_lt_F, y_le_T, y_le_F, y_eq_T, y_eq_F, y_in_T, y_cl, ↓reduceIte, y_bs, y_bvs, y_os, y_on, y_t, ne_eq, not_true_eq_false, not_false_eq_true, pk_mul, nI_add]
        rw [sX12_place R2 hw.1 c0']
        simp (disch := omega) only [y_lit, y_lt_T, y_lt_F, y_le_T, y_le_F, y_eq_T, y_eq_F, y_in_T, y_cl, ↓reduceIte, y_bs, y_bvs, y_os, y_on, y_t, ne_eq, not_true_eq_false, not_false_eq_true, pk_mul, nI_add, y_b1, fX12_doubt_b98]
        exact f1
      · rw [if_pos ⟨cs, decide_eq_true c0'⟩] at eD
        rw [eD] at nx
        have l2 := v_U_lt hv (b_r B q) i
        have eu : s_u (v_hD (eQ B Cs (b_r B q)) (b_r B q) i) = v_U (eQ B Cs (b_r B q)) (b_r B q) i := by
          unfold v_U
          rw [v_G_e c0']
        have f1 := nx N2 c (by omega) (by omega) kk C2 hcw (fun _ => P2) (fun u hu hs hu0 => by
          by_cases e : u = i
          · subst e
            exact absurd hu0 c0'
          · exact hm u (by omega) hs hu0)
        simp (disch := omega) only [y_lit, y_lt_T, y_lt_F, y_le_T, y_le_F, y_eq_T, y_eq_F, y_in_T, y_cl, ↓reduceIte, y_bs, y_bvs, y_os, y_on, y_t, ne_eq, not_true_eq_false, not_false_eq_true, pk_mul, nI_add]
        rw [sX12_outcome R2, eu]
        simp (disch := omega) only [y_lit, y_lt_T, y_lt_F, y_le_T, y_le_F, y_eq_T, y_eq_F, y_in_T, y_cl, ↓reduceIte, y_bs, y_bvs, y_os, y_on, y_t, ne_eq, not_true_eq_false, not_false_eq_true, pk_mul, nI_add, y_b31, nI_or, fX12_doubt_b98]
        exact f1
    · have hz : ¬ (nI i &&& (nI U ^^^ -nI 1)) = nI 0 := fun z => cs (sz.mp z)
      rw [if_neg (fun z => cs z.1)] at eD
      rw [eD] at nx
      have hi0 : 0 < i := by
        by_cases e : i = 0
        · subst e
          exact absurd (Nat.zero_and _) cs
        · omega
      have f1 := nx N c (by omega) (by omega) kN hc hcw (fun _ => hP hi0) (fun u hu hs hu0 => by
        by_cases e : u = i
        · subst e
          exact absurd hs cs
        · exact hm u (by omega) hs hu0)
      rw [fX12_doubt_b44]
      simp (disch := omega) only [y_lit, y_lt_T, y_lt_F, y_le_T, y_le_F, y_eq_T, y_eq_F, y_in_T, y_cl, ↓reduceIte, y_bs, y_bvs, y_os, y_on, y_t, ne_eq, not_true_eq_false, not_false_eq_true, pk_mul, nI_add, hz, fX12_doubt_b98]
      exact f1
/-- its second pass: the games of those that go on -/
theorem sX12_doubt_b112 (h2 : K2 M nc B Cs) (ok : KO nc B Cs) {q : Nat} (hq : q < b_q B) {U D0 : Nat} (hU : U < 512) {c : Nat → Bool} (hV : ∀ b, c b = true → VA1 M (eQ B Cs (b_r B q)) (-nI 1) b) (hm : ∀ u, u ≤ U → u &&& U = u → s_e (v_hD (eQ B Cs (b_r B q)) (b_r B q) u) = 0 → c (s_pl (v_hD (eQ B Cs (b_r B q)) (b_r B q) u)) = true) :
    ∀ (n i f : Nat) (N : QM), i + n = U + 1 → n < f → kp (fun a j => SD a j ∨ SQ a j) M N →
    qW (fX12_doubt_b112 f N (nI q) (nI U) (nI (o_D U (fun u => decide (s_e (v_hD (eQ B Cs (b_r B q)) (b_r B q) u) = 0)) (v_U (eQ B Cs (b_r B q)) (b_r B q)) D0 i)) (nI i)) (fun r N1 => r = nI (o_D U (fun u => decide (s_e (v_hD (eQ B Cs (b_r B q)) (b_r B q) u) = 0)) (v_U (eQ B Cs (b_r B q)) (b_r B q)) D0 (U + 1)) ∧ kp (fun a j => SD a j ∨ SQ a j) M N1) := by
  have hQ := ok.q hq
  have hv := ok.v hQ.b
  intro n
  induction n with
  | zero =>
    intro i f N hi hf kN
    obtain ⟨f, rfl⟩ : ∃ p, f = p + 1 := ⟨f - 1, by omega⟩
    have e : i = U + 1 := hi
    subst e
    simp (disch := omega) only [fX12_doubt_b112, y_lit, y_lt_T, y_lt_F, y_le_T, y_le_F, y_eq_T, y_eq_F, y_in_T, y_cl, ↓reduceIte, y_bs, y_bvs, y_os, y_on, y_t, ne_eq, not_true_eq_false, not_false_eq_true, pk_mul, nI_add]
    exact qW_s ⟨rfl, kN⟩
  | succ n ih =>
    intro i f N hi hf kN
    obtain ⟨f, rfl⟩ : ∃ p, f = p + 1 := ⟨f - 1, by omega⟩
    have KN := h2.kept kN (fun x j z => SDQ_2 z)
    have eD : o_D U (fun u => decide (s_e (v_hD (eQ B Cs (b_r B q)) (b_r B q) u) = 0)) (v_U (eQ B Cs (b_r B q)) (b_r B q)) D0 (i + 1) = if i &&& U = i ∧ decide (s_e (v_hD (eQ B Cs (b_r B q)) (b_r B q) i) = 0) = true then o_D U (fun u => decide (s_e (v_hD (eQ B Cs (b_r B q)) (b_r B q) u) = 0)) (v_U (eQ B Cs (b_r B q)) (b_r B q)) D0 i ||| 2 ^ v_U (eQ B Cs (b_r B q)) (b_r B q) i else o_D U (fun u => decide (s_e (v_hD (eQ B Cs (b_r B q)) (b_r B q) u) = 0)) (v_U (eQ B Cs (b_r B q)) (b_r B q)) D0 i := rfl
    have nx := ih (i + 1) f
    have sz := sub_zero (show i < 512 by omega) hU
    by_cases cs : i &&& U = i
    · have hz := sz.mpr cs
      obtain ⟨N2, e2, P2, R2, k2⟩ := sX12_again KN ok hq (show i < 512 by omega)
      have hw := v_hD_w hv (b_r B q) i
      have he5 : s_e (v_hD (eQ B Cs (b_r B q)) (b_r B q) i) < 5 := hw.1.2.2.2.2.2.1
      have kk : kp (fun a j => SD a j ∨ SQ a j) M N2 := kN.tr k2
      rw [fX12_doubt_b112]
      simp (disch := omega) only [y_lit, y_lt_T, y_lt_F, y_le_T, y_le_F, y_eq_T, y_eq_F, y_in_T, y_cl, ↓reduceIte, y_bs, y_bvs, y_os, y_on, y_t, ne_eq, not_true_eq_false, not_false_eq_true, pk_mul, nI_add, hz]
      rw [e2]
      simp (disch := omega) only [y_lit, y_lt_T, y_lt_F, y_le_T, y_le_F, y_eq_T, y_eq_F, y_in_T, y_cl, ↓reduceIte, y_bs, y_bvs, y_os, y_on, y_t, ne_eq, not_true_eq_false, not_false_eq_true, pk_mul, nI_add, R2.2.2.2.2.1]
      by_cases c0' : s_e (v_hD (eQ B Cs (b_r B q)) (b_r B q) i) = 0
      · have wl := hw.2 c0'
        have hh := v_h_le hv
        have hb := s_pl_b hw.1
        have l2 := v_U_lt hv (b_r B q) i
        rw [if_pos ⟨cs, decide_eq_true c0'⟩] at eD
        rw [eD] at nx
        have v := hV _ (hm i (by omega) cs c0')
        unfold VA1 at v
        rw [s_up_pl hw.1 c0' wl.1] at v
        have v37 : q_a N2 1000 37 (s_pl (v_hD (eQ B Cs (b_r B q)) (b_r B q) i)) = nI (v_U (eQ B Cs (b_r B q)) (b_r B q) i) := (kk.a (by unfold SD SQ; omega)).trans v.1
        have f1 := nx N2 (by omega) (by omega) kk
        simp (disch := omega) only [y_lit, y_lt_T, y_lt_F, y_le_T, y_le_F, y_eq_T, y_eq_F, y_in_T, y_cl, ↓reduceIte, y_bs, y_bvs, y_os, y_on, y_t, ne_eq, not_true_eq_false, not_false_eq_true, pk_mul, nI_add]
        rw [sX12_place R2 hw.1 c0']
        simp (disch := omega) only [y_lit, y_lt_T, y_lt_F, y_le_T, y_le_F, y_eq_T, y_eq_F, y_in_T, y_cl, ↓reduceIte, y_bs, y_bvs, y_os, y_on, y_t, ne_eq, not_true_eq_false, not_false_eq_true, pk_mul, nI_add, v37, y_b31, nI_or, fX12_doubt_b158]
        exact f1
      · rw [if_neg (fun z => c0' (of_decide_eq_true z.2))] at eD
        rw [eD] at nx
        have f1 := nx N2 (by omega) (by omega) kk
        simp (disch := omega) only [y_lit, y_lt_T, y_lt_F, y_le_T, y_le_F, y_eq_T, y_eq_F, y_in_T, y_cl, ↓reduceIte, y_bs, y_bvs, y_os, y_on, y_t, ne_eq, not_true_eq_false, not_false_eq_true, pk_mul, nI_add, fX12_doubt_b158]
        exact f1
    · have hz : ¬ (nI i &&& (nI U ^^^ -nI 1)) = nI 0 := fun z => cs (sz.mp z)
      rw [if_neg (fun z => cs z.1)] at eD
      rw [eD] at nx
      have f1 := nx N (by omega) (by omega) kN
      rw [fX12_doubt_b112]
      simp (disch := omega) only [y_lit, y_lt_T, y_lt_F, y_le_T, y_le_F, y_eq_T, y_eq_F, y_in_T, y_cl, ↓reduceIte, y_bs, y_bvs, y_os, y_on, y_t, ne_eq, not_true_eq_false, not_false_eq_true, pk_mul, nI_add, hz, fX12_doubt_b158]
      exact f1
theorem doubt_same {Q : QR} (hQ0 : r_m Q 0 < 4) (hn : 0 < r_n Q) (U : Nat) : o_D (U &&& r_b Q (r_n Q)) (fun _ => true) (v_U E Q) 0 ((U &&& r_b Q (r_n Q)) + 1) = o_D U (fun u => decide (s_e (v_hD E Q u) = 0)) (v_U E Q) (o_D U (fun u => decide (¬ s_e (v_hD E Q u) = 0)) (v_U E Q) 0 (U + 1)) (U + 1) := by
  apply Nat.eq_of_testBit_eq
  intro t
  have key : ∀ a b : Bool, (a = true ↔ b = true) → a = b := fun a b h => by cases a <;> cases b <;> simp_all
  apply key
  rw [o_D_bit, o_D_bit, o_D_bit]
  have z0 : ¬ (0 : Nat).testBit t = true := by rw [Nat.zero_testBit]; decide
  have sub : ∀ {a b : Nat}, a &&& b = a → a ≤ b := fun {a b} h => by rw [← h]; exact Nat.and_le_right
  constructor
  · rintro (h | ⟨u, h1, h2, -, h4⟩)
    · exact absurd h z0
    · have hu : u &&& U = u := by
        rw [← h2, Nat.and_comm U, ← Nat.and_assoc, Nat.and_assoc, Nat.and_self]
      have huU := sub hu
      by_cases c : s_e (v_hD E Q u) = 0
      · exact Or.inr ⟨u, by omega, hu, decide_eq_true c, h4⟩
      · exact Or.inl (Or.inr ⟨u, by omega, hu, decide_eq_true c, h4⟩)
  · have back : ∀ u, u &&& U = u → v_U E Q u = t → ∃ u', u' < (U &&& r_b Q (r_n Q)) + 1 ∧ u' &&& (U &&& r_b Q (r_n Q)) = u' ∧ true = true ∧ v_U E Q u' = t := fun u hu h4 => by
      refine ⟨u &&& r_b Q (r_n Q), ?_, ?_, rfl, ?_⟩
      · have : (u &&& r_b Q (r_n Q)) &&& (U &&& r_b Q (r_n Q)) = u &&& r_b Q (r_n Q) := by
          rw [Nat.and_comm U, ← Nat.and_assoc, Nat.and_assoc u, Nat.and_self, Nat.and_assoc, Nat.and_comm (r_b Q (r_n Q)), ← Nat.and_assoc, hu]
        have := sub this
        omega
      · rw [Nat.and_comm U, ← Nat.and_assoc, Nat.and_assoc u, Nat.and_self, Nat.and_assoc, Nat.and_comm (r_b Q (r_n Q)), ← Nat.and_assoc, hu]
      · rw [← h4]
        unfold v_U
        rw [v_hD_same (u := u &&& r_b Q (r_n Q)) (u2 := u) hQ0 hn (fun j hj h8 => by
          rw [bb_t, bb_t, Nat.testBit_and, r_b_O, bO_bit, decide_eq_true hj, Bool.true_and, decide_eq_true h8, Bool.and_true])]
    rintro ((h | ⟨u, h1, h2, h3, h4⟩) | ⟨u, h1, h2, h3, h4⟩)
    · exact absurd h z0
    · exact Or.inr (back u h2 h4)
    · exact Or.inr (back u h2 h4)
end DOUBT
