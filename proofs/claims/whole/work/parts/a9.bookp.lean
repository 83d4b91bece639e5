/-! persons alone: the rows once more, where a quarrel is being added -/
def RBp (M : QM) (o : Nat) (B : BK) : Prop := q_i M o 6 = nI (b_n B) ∧ True ∧ (∀ i, i < b_n B → RP1 M o i (b_p B i)) ∧ True
theorem RB1.p {M : QM} {o : Nat} {B : BK} (h : RB1 M o B) : RBp M o B := ⟨h.1, trivial, h.2.2.1, trivial⟩
theorem RBp.kept {S : Nat → Nat → Prop} {M M1 : QM} {o : Nat} {B : BK} (h : RBp M o B) (k : kp S M M1) (hS : ∀ j, S o j → j = 7) : RBp M1 o B := by
  have no : ∀ {j : Nat}, j ≠ 7 → ¬ S o j := fun h z => h (hS _ z)
  refine ⟨(k.i (no (by decide))).trans h.1, trivial, fun i hi => ?_, trivial⟩
  have g := h.2.2.1 i hi
  unfold RP1 at g ⊢
  rw [k.a (no (by decide)), k.a (no (by decide)), k.a (no (by decide)), k.a (no (by decide)), k.a (no (by decide))]
  exact g
section BOOKP
variable {nc : Nat} {M : QM} {o : Nat} {B : BK}
theorem sXp_hasPerson (h : RBp M o B) (hB : b_n B ≤ 12) {i : Nat} (hi : i < b_n B) : fX1_hasPerson M o (nI i) = some (1, M) := by
  unfold fX1_hasPerson
  rw [h.1, if_neg (nI_pos (by omega)), if_neg (nI_ge hi (by omega)), if_neg (show ¬ (12 : Int32) ≤ nI i from nI_ge (b := 12) (by omega) (by omega))]
theorem sXp_ageOf (h : RBp M o B) (hB : b_n B ≤ 12) {i : Nat} (hi : i < b_n B) : fX1_ageOf M o (nI i) = some (nI (b_age B i), M) := by
  unfold fX1_ageOf
  rw [sXp_hasPerson h hB hi, q_b_s, if_neg (by decide), if_pos (q_inN (by omega) (by omega)), nI_cl (by omega), (h.2.2.1 i hi).1]
theorem sXp_rankOf (h : RBp M o B) (hB : b_n B ≤ 12) {i : Nat} (hi : i < b_n B) : fX1_rankOf M o (nI i) = some (nI (b_rank B i), M) := by
  unfold fX1_rankOf
  rw [sXp_hasPerson h hB hi, q_b_s, if_neg (by decide), if_pos (q_inN (by omega) (by omega)), nI_cl (by omega), (h.2.2.1 i hi).2.1]
theorem sXp_houseOf (h : RBp M o B) (hB : b_n B ≤ 12) {i : Nat} (hi : i < b_n B) : fX1_houseOf M o (nI i) = some (nI (b_house B i), M) := by
  unfold fX1_houseOf
  rw [sXp_hasPerson h hB hi, q_b_s, if_neg (by decide), if_pos (q_inN (by omega) (by omega)), nI_cl (by omega), (h.2.2.1 i hi).2.2.1]
theorem sXp_isOwing (h : RBp M o B) (hB : b_ok nc B) {i j : Nat} (hi : i < b_n B) (hj : j < b_n B) : fX1_isOwing M o (nI i) (nI j) = some (nI (b_owes B i / 2 ^ j % 2), M) := by
  have hn := hB.1
  have hw : b_owes B i < 2 ^ 12 := Nat.lt_of_lt_of_le (hB.2.2.1 i hi).2.2.2.2 (Nat.pow_le_pow_right (by decide) hn)
  have hj31 : ∀ j, j < 12 → ((nI j &&& (31 : Int32)).toBitVec.smod 32).toNat = j := by decide
  simp only [fX1_isOwing, q_t]
  rw [sXp_hasPerson h hn hi, q_b_s, if_neg (by decide), sXp_hasPerson h hn hj, q_b_s, if_neg (by decide), if_pos (q_inN (by omega) (by omega)), nI_cl (by omega), (h.2.2.1 i hi).2.2.2.2,
    s_and (Nat.lt_of_lt_of_le hw (by decide)) 1 (by decide) (hj31 j (by omega))]
  have h2 : b_owes B i / 2 ^ j % 2 ^ 1 < 2 := Nat.mod_lt _ (by decide)
  rw [show b_owes B i / 2 ^ j % 2 = b_owes B i / 2 ^ j % 2 ^ 1 from rfl]
  generalize b_owes B i / 2 ^ j % 2 ^ 1 = v at h2 ⊢
  match v, h2 with
  | 0, _ => rw [if_pos (by decide)]; rfl
  | 1, _ => rw [if_neg (by decide)]; rfl
end BOOKP
section SETP
variable {nc c0 c1 a : Nat} {M : QM} {B : BK} {so : Nat} {E : EV}
theorem sXp_turnTo (h : RBp M 20 B) (hB : b_ok nc B) (hso : so < 20) {i p : Nat} (hi : i < b_n B) (hp : p < b_n B) (d : Nat) : qV (fX6_turnTo M so 20 (nI i) (nI p) (nI d)) (fun N => (∀ w, w < 7 → q_a N so 0 w = g_w B i p d 0 0 0 w) ∧ kp (fun a j => a = so ∧ j = 0) M N) := by
  have hn := hB.1
  have hS : ∀ x j, (x = so ∧ j = 0) → x < 20 := fun x j z => by omega
  have up : ∀ {N : QM} (k : kp (fun a j => a = so ∧ j = 0) M N) (i : Nat) (v : Int32), kp (fun a j => a = so ∧ j = 0) M (p_a N so 0 i v) := fun k i v => k.tr (kp_a ⟨rfl, rfl⟩)
  have rb : ∀ {N : QM}, kp (fun a j => a = so ∧ j = 0) M N → RBp N 20 B := fun k => h.kept k (fun j z => by have := hS _ _ z; omega)
  have fin : ∀ (N : QM) (v5 v4 : Nat), kp (fun a j => a = so ∧ j = 0) M N → (∀ w, w < 5 → q_a N so 0 w = g_w B i p d 0 0 0 w) → v5 = b_owes B i / 2 ^ p % 2 → qV (fX6_turnTo_b87 N so (nI d) (nI v5) (nI 5) so) (fun N => (∀ w, w < 7 → q_a N so 0 w = g_w B i p d 0 0 0 w) ∧ kp (fun a j => a = so ∧ j = 0) M N) := fun N v5 v4 k hw e5 => by
    unfold fX6_turnTo_b87
    simp (disch := omega) only [y_lit, y_lt_T, y_lt_F, y_le_T, y_le_F, y_eq_T, y_eq_F, y_in_T, y_cl, ↓reduceIte, y_bs, y_bvs, y_os, y_on, y_t, ne_eq, not_true_eq_false, not_false_eq_true, pk_mul, nI_add]
    refine qV_s ⟨fun w hw7 => ?_, up (up k _ _) _ _⟩
    simp only [q_a_p_a, true_and]
    by_cases e6 : w = 6
    · subst e6; rfl
    · rw [if_neg e6]
      by_cases e5' : w = 5
      · subst e5'
        rw [if_pos rfl, e5]
        rfl
      · rw [if_neg e5']
        exact hw w (by omega)
  have mid : ∀ (N : QM) (v4 : Nat), kp (fun a j => a = so ∧ j = 0) M N → (∀ w, w < 4 → q_a N so 0 w = g_w B i p d 0 0 0 w) → v4 = (if b_house B i = b_house B p then 1 else 0) → qV (fX6_turnTo_b67 N so 20 (nI i) (nI p) (nI d) (nI v4) (nI 4) so) (fun N => (∀ w, w < 7 → q_a N so 0 w = g_w B i p d 0 0 0 w) ∧ kp (fun a j => a = so ∧ j = 0) M N) := fun N v4 k hw e4 => by
    unfold fX6_turnTo_b67
    simp (disch := omega) only [y_lit, y_lt_T, y_lt_F, y_le_T, y_le_F, y_eq_T, y_eq_F, y_in_T, y_cl, ↓reduceIte, y_bs, y_bvs, y_os, y_on, y_t, ne_eq, not_true_eq_false, not_false_eq_true, pk_mul, nI_add]
    have k1 := up k 4 (nI v4)
    rw [sXp_isOwing (rb k1) hB hi hp, q_b_s]
    have hv : b_owes B i / 2 ^ p % 2 < 2 := Nat.mod_lt _ (by decide)
    have h4 : ∀ w, w < 5 → q_a (p_a N so 0 4 (nI v4)) so 0 w = g_w B i p d 0 0 0 w := fun w hw5 => by
      simp only [q_a_p_a, true_and]
      by_cases e : w = 4
      · subst e
        rw [if_pos rfl, e4]
        rfl
      · rw [if_neg e]
        exact hw w (by omega)
    have f0 := fin _ (b_owes B i / 2 ^ p % 2) v4 k1 h4 rfl
    generalize b_owes B i / 2 ^ p % 2 = v at hv f0 ⊢
    match v, hv with
    | 0, _ => exact f0
    | 1, _ => exact f0
  have k0 : kp (fun a j => a = so ∧ j = 0) M (p_a M so 0 0 (nI (b_age B i))) := up kp.rf _ _
  have k1 := up k0 1 (nI (b_rank B i))
  have k2 := up k1 2 (nI (b_age B p))
  have k3 := up k2 3 (nI (b_rank B p))
  have hh : b_house B i < 10 := (hB.2.2.1 i hi).2.2.1
  have hh2 : b_house B p < 10 := (hB.2.2.1 p hp).2.2.1
  have h3 : ∀ w, w < 4 → q_a (p_a (p_a (p_a (p_a M so 0 0 (nI (b_age B i))) so 0 1 (nI (b_rank B i))) so 0 2 (nI (b_age B p))) so 0 3 (nI (b_rank B p))) so 0 w = g_w B i p d 0 0 0 w := fun w hw => by
    have : w = 0 ∨ w = 1 ∨ w = 2 ∨ w = 3 := by omega
    rcases this with e | e | e | e <;> subst e <;> simp [q_a_p_a, g_w]
  unfold fX6_turnTo
  simp (disch := omega) only [y_lit, y_lt_T, y_lt_F, y_le_T, y_le_F, y_eq_T, y_eq_F, y_in_T, y_cl, ↓reduceIte, y_bs, y_bvs, y_os, y_on, y_t, ne_eq, not_true_eq_false, not_false_eq_true, pk_mul, nI_add, sXp_ageOf h hn hi, sXp_rankOf (rb k0) hn hi, sXp_ageOf (rb k1) hn hp, sXp_rankOf (rb k2) hn hp, sXp_houseOf (rb k3) hn hi, sXp_houseOf (rb k3) hn hp]
  by_cases e : b_house B i = b_house B p
  · rw [if_neg (by rw [e]; exact fun z => z rfl)]
    exact mid _ 1 k3 h3 (by rw [if_pos e])
  · rw [if_pos (fun z => e ((nI_eq (by omega) (by omega)).mp z))]
    exact mid _ 0 k3 h3 (by rw [if_neg e])
theorem sXp_set {B : BK} {p0 p1 d : Nat} {C0 C1 : CD} (h1 : RBp M 20 B) (h : v_ok nc (B, (p0, p1, d), (C0, C1), 0)) (hc0 : c0 < 6) (hc1 : c1 < 6) (r0 : RC1 M (10 + c0) C0) (r1 : RC1 M (10 + c1) C1) (hA : MA M a) (ha : a < 2000000000) :
    qV (fX0_set M 20 (nI p0) (nI p1) (nI d) (10 + c0) (10 + c1)) (fun N => AF N (B, (p0, p1, d), (C0, C1), 0) c0 c1 ∧ MA N (a + 1) ∧ kp SS M N) := by
  have hB : b_ok nc B := h.1
  have hp0 : p0 < b_n B := h.2.1
  have hp1 : p1 < b_n B := h.2.2.1
  unfold fX0_set
  refine qV_bv (qV.to (sXp_turnTo (so := 8) h1 hB (by decide) hp0 hp1 d) (fun N1 g1 => ?_))
  obtain ⟨w1, k1⟩ := g1
  have h1N : RBp N1 20 B := h1.kept k1 (fun j z => by omega)
  refine qV_bv (qV.to (sXp_turnTo (so := 9) h1N hB (by decide) hp1 hp0 d) (fun N2 g2 => ?_))
  obtain ⟨w2, k2⟩ := g2
  have kk : kp SS M N2 := (k1.wd (fun x j z => by unfold SS; omega)).tr (k2.wd (fun x j z => by unfold SS; omega))
  have q0 : RC1 N2 (10 + c0) C0 := r0.any kk (fun j z => by unfold SS at z; omega)
  have q1 : RC1 N2 (10 + c1) C1 := r1.any kk (fun j z => by unfold SS at z; omega)
  have e0 : q_i N2 (10 + c0) 10 = nI (c_h C0) := q0.2.2.1
  have e1 : q_i N2 (10 + c1) 10 = nI (c_h C1) := q1.2.2.1
  have b0 : c_h C0 < 9 := (h.c (k := 0) (by decide)).2.2.1
  have b1 : c_h C1 < 9 := (h.c (k := 1) (by decide)).2.2.1
  have m8 : q_i N2 4 8 = nI a := (k2.i (by omega)).trans ((k1.i (by omega)).trans hA.1)
  have m7 : ∀ i, i < 4096 → ∃ b, b ≤ a ∧ q_a N2 4 7 i = nI b := fun i hi => by
    rw [k2.a (by omega), k1.a (by omega)]
    exact hA.2 i hi
  simp (disch := omega) only [y_lit, y_lt_T, y_lt_F, y_le_T, y_le_F, y_eq_T, y_eq_F, y_in_T, y_cl, ↓reduceIte, y_bs, y_bvs, y_os, y_on, y_t, ne_eq, not_true_eq_false, not_false_eq_true, pk_mul, nI_add, y_ii, y_ia, y_il, y_ir, y_ai, y_aa, y_al, y_ar, y_li, y_la, y_ll, y_lr, y_ri, y_ra, y_rl, y_rr, and_true, true_and, and_false, false_and, and_self, if_true, if_false, Nat.reduceEqDiff, reduceCtorEq, or_false, false_or, or_true, true_or, e0, e1, m8]
  have ev : (if nI (c_h C1) < nI (c_h C0) then nI (c_h C1) else nI (c_h C0)) = nI (v_h (B, (p0, p1, d), (C0, C1), 0)) := by
    show _ = nI (if c_h C1 < c_h C0 then c_h C1 else c_h C0)
    by_cases c : c_h C1 < c_h C0
    · rw [if_pos (nI_lt c (by omega)), if_pos c]
    · rw [if_neg (nI_nlt (by omega) (by omega)), if_neg c]
  refine qV_s ⟨⟨hc0, hc1, ?_, ?_, fun k hk => ?_, fun k hk w hw => ?_, ?_, ⟨0, by decide, ?_, fun k hk i hi => ?_⟩, fun s hs h0 he => ?_⟩, ⟨?_, fun i hi => ?_⟩, ?_⟩
  · simp [q_r_p_i, q_r_p_r]
  · simp [q_r_p_i, q_r_p_r]
  · have KI : ∀ (M : QM) (j : Nat) (v : Int32), kp (fun x _ => x = 4) M (p_i M 4 j v) := fun M j v => kp_i rfl
    have KR : ∀ (M : QM) (j : Nat) (v : Nat), kp (fun x _ => x = 4) M (p_r M 4 j v) := fun M j v => kp_r rfl
    have kz := (KR N2 2 (10 + c0)).tr ((KR _ 3 (10 + c1)).tr ((KI _ 4 (if nI (c_h C1) < nI (c_h C0) then nI (c_h C1) else nI (c_h C0))).tr ((KI _ 5 (nI 0)).tr (KI _ 8 (nI (a + 1))))))
    match k, hk with
    | 0, _ => exact q0.any kz (fun j z => by have z : 10 + c0 = 4 := z; omega)
    | 1, _ => exact q1.any kz (fun j z => by have z : 10 + c1 = 4 := z; omega)
  · simp only [q_a_p_i, q_a_p_r]
    match k, hk with
    | 0, _ => exact (k2.a (by omega)).trans (w1 w hw)
    | 1, _ => exact w2 w hw
  · simp [q_i_p_i]
    exact ev
  · simp [q_i_p_i]
  · rw [Nat.zero_div]
    show 0 = if c_s (v_c (B, (p0, p1, d), (C0, C1), 0) k) i = 1 then 0 / 2 ^ _ % 2 else 0
    rw [Nat.zero_div]
    split <;> rfl
  · simp [q_a_p_i, q_a_p_r, q_i_p_i] at he
    obtain ⟨b, hb, eb⟩ := m7 _ (s_sl hs.1)
    rw [eb] at he
    have := (nI_eq (by omega) (by omega)).mp he
    omega
  · simp [q_i_p_i]
  · simp [q_a_p_i, q_a_p_r]
    obtain ⟨b, hb, eb⟩ := m7 i hi
    exact ⟨b, by omega, eb⟩
  · exact kk.tr ((kp_r (Or.inl rfl)).tr ((kp_r (Or.inl rfl)).tr ((kp_i (Or.inl rfl)).tr ((kp_i (Or.inl rfl)).tr (kp_i (Or.inl rfl))))))
end SETP
