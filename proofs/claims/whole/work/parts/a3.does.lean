/-! the reference's does, slightsFirst -/
section DOES
variable {nc c0 c1 : Nat} {M : QM} {E : EV}
theorem SDi {j : Nat} (h : 30 ≤ j ∧ j ≤ 35) : SD 1000 j := ⟨rfl, Or.inr h⟩
theorem SD22 {a j : Nat} (h : a = 1000 ∧ j = 22) : SD a j := ⟨h.1, Or.inl (by omega)⟩
theorem SD23 {a j : Nat} (h : a = 1000 ∧ (j = 23 ∨ j = 24)) : SD a j := ⟨h.1, Or.inl (by omega)⟩
theorem c_e_lt6 (P : PY M E c0 c1) (k : Nat) : c_e c0 c1 k < 6 := by
  have := P.1
  have := P.2.1
  unfold c_e
  split <;> omega
/-- behind what is owed and asked: peace, an hour less, let lie -/
theorem sX12_does_b201 (P : PY M E c0 c1) (h : v_ok nc E) {s : ST} (hs : v_w E s) (h0 : s_e s = 0) {a b k : Nat} (ha : a < 16) (hb : b < 16) (hk : k < 3) (ea : q_a M 1000 30 0 = nI a) (eb : q_a M 1000 30 1 = nI b) (ek : q_i M 1000 32 = nI k - nI 1) (el : q_i M 1000 33 = nI (s_l s)) (ee : q_i M 1000 34 = nI 0) (ez : q_i M 1000 35 = nI 0) :
    qV (fX12_does_b201 M (nI (1 - s_t s))) (fun N => RST N (v_n E s a b k) ∧ kp SD M N) := by
  have ht : s_t s < 2 := hs.1.2.2.2.1
  have hl : s_l s < 16 := hs.1.2.2.1
  obtain ⟨w1, w2, w3, w4, w5⟩ := hs.2 h0
  have e2 : nI (s_l s) - nI 1 = nI (s_l s - 1) := pk_sub (by omega)
  unfold fX12_does_b201 v_n
  rw [sX12_isPeace ha hb hk ea eb ek, q_b_s]
  by_cases c : a = 0 ∧ b = 0 ∧ k = 0
  · rw [if_pos c, if_pos c]
    obtain ⟨rfl, rfl, rfl⟩ := c
    simp (disch := omega) only [y_lit, y_lt_T, y_lt_F, y_le_T, y_le_F, y_eq_T, y_eq_F, y_in_T, y_cl, ↓reduceIte, y_bs, y_bvs, y_os, y_on, y_t, ne_eq, not_true_eq_false, not_false_eq_true, pk_mul, nI_add]
    refine qV_s ⟨⟨fun q hq => ?_, fun z => absurd z (show ¬ (1 = 0) by decide), ?_, ?_, ?_, ?_⟩, kp_i (SDi (by decide))⟩
    · match q, hq with
      | 0, _ => exact ea
      | 1, _ => exact eb
    · exact ek
    · exact el
    · rw [q_i_p_i, if_pos ⟨rfl, rfl⟩]; rfl
    · exact ez
  · rw [if_neg c, if_neg c]
    simp (disch := omega) only [y_lit, y_lt_T, y_lt_F, y_le_T, y_le_F, y_eq_T, y_eq_F, y_in_T, y_cl, ↓reduceIte, y_bs, y_bvs, y_os, y_on, y_t, ne_eq, not_true_eq_false, not_false_eq_true, pk_mul, nI_add, y_ii, y_ia, y_il, y_ir, y_ai, y_aa, y_al, y_ar, y_li, y_la, y_ll, y_lr, y_ri, y_ra, y_rl, y_rr, and_true, true_and, and_false, false_and, and_self, if_true, if_false, Nat.reduceEqDiff, reduceCtorEq, or_false, false_or, or_true, true_or, el, e2]
    by_cases c1l : s_l s ≤ 1
    · have m0 := (P.2.2.2.1 0 (by decide)).2.2.2.1
      have m1 := (P.2.2.2.1 1 (by decide)).2.2.2.1
      have k0 := (P.2.2.2.2.1 0 (by decide)).2
      have k1 := (P.2.2.2.2.1 1 (by decide)).2
      have l0 := c_e_lt6 P 0
      have l1 := c_e_lt6 P 1
      have b0 : c_m (v_c E 0) < 16 := (h.c (k := 0) (by decide)).2.2.2.1
      have b1 : c_m (v_c E 1) < 16 := (h.c (k := 1) (by decide)).2.2.2.1
      have fin : ∀ (N : QM) (u : Nat), RST N (a, b, s_l s - 1, 1 - s_t s, k, 4, 0) → kp SD M N → PY N E c0 c1 → u = (if c_m (v_c E 0) ≤ a then 1 else 0) → qV (fX12_does_b269 N (nI u)) (fun N => RST N (a, b, s_l s - 1, 1 - s_t s, k, 4, v_L E a b) ∧ kp SD M N) := fun N u R kk PN eu => by
        have m1N := (PN.2.2.2.1 1 (by decide)).2.2.2.1
        have k1N := (PN.2.2.2.2.1 1 (by decide)).2
        have ebN : q_a N 1000 30 1 = nI b := R.1 1 (by decide)
        have last : ∀ u2 : Nat, u2 = (if c_m (v_c E 1) ≤ b then 2 else 0) → qV (fX12_does_b294 N (nI u2) (nI u)) (fun N => RST N (a, b, s_l s - 1, 1 - s_t s, k, 4, v_L E a b) ∧ kp SD M N) := fun u2 eu2 => by
          unfold fX12_does_b294
          simp (disch := omega) only [y_lit, y_lt_T, y_lt_F, y_le_T, y_le_F, y_eq_T, y_eq_F, y_in_T, y_cl, ↓reduceIte, y_bs, y_bvs, y_os, y_on, y_t, ne_eq, not_true_eq_false, not_false_eq_true, pk_mul, nI_add]
          refine qV_s ⟨⟨R.1, fun z => absurd z (show ¬ (4 = 0) by decide), R.2.2.1, R.2.2.2.1, R.2.2.2.2.1, ?_⟩, kk.tr (kp_i (SDi (by decide)))⟩
          rw [q_i_p_i, if_pos ⟨rfl, rfl⟩, eu, eu2]
          rfl
        unfold fX12_does_b269
        by_cases c : c_m (v_c E 1) ≤ b
        · simp (disch := omega) only [y_lit, y_lt_T, y_lt_F, y_le_T, y_le_F, y_eq_T, y_eq_F, y_in_T, y_cl, ↓reduceIte, y_bs, y_bvs, y_os, y_on, y_t, ne_eq, not_true_eq_false, not_false_eq_true, pk_mul, nI_add, k1N, m1N, ebN]
          exact last 2 (by rw [if_pos c])
        · simp (disch := omega) only [y_lit, y_lt_T, y_lt_F, y_le_T, y_le_F, y_eq_T, y_eq_F, y_in_T, y_cl, ↓reduceIte, y_bs, y_bvs, y_os, y_on, y_t, ne_eq, not_true_eq_false, not_false_eq_true, pk_mul, nI_add, k1N, m1N, ebN]
          exact last 0 (by rw [if_neg c])
      have kN : kp SD M (p_i (p_i (p_i M 1000 33 (nI (s_l s - 1))) 1000 31 (nI (1 - s_t s))) 1000 34 (nI 4)) := ((kp_i (SDi (by decide))).tr (kp_i (SDi (by decide)))).tr (kp_i (SDi (by decide)))
      have RN : RST (p_i (p_i (p_i M 1000 33 (nI (s_l s - 1))) 1000 31 (nI (1 - s_t s))) 1000 34 (nI 4)) (a, b, s_l s - 1, 1 - s_t s, k, 4, 0) := by
        refine ⟨fun q hq => ?_, fun z => absurd z (show ¬ (4 = 0) by decide), ?_, ?_, ?_, ?_⟩
        · match q, hq with
          | 0, _ => exact ea
          | 1, _ => exact eb
        · simp [q_i_p_i]; exact ek
        · simp [q_i_p_i]; rfl
        · simp [q_i_p_i]; rfl
        · simp [q_i_p_i]; exact ez
      rw [if_pos c1l]
      by_cases c : c_m (v_c E 0) ≤ a
      · simp (disch := omega) only [y_lit, y_lt_T, y_lt_F, y_le_T, y_le_F, y_eq_T, y_eq_F, y_in_T, y_cl, ↓reduceIte, y_bs, y_bvs, y_os, y_on, y_t, ne_eq, not_true_eq_false, not_false_eq_true, pk_mul, nI_add, y_ii, y_ia, y_il, y_ir, y_ai, y_aa, y_al, y_ar, y_li, y_la, y_ll, y_lr, y_ri, y_ra, y_rl, y_rr, and_true, true_and, and_false, false_and, and_self, if_true, if_false, Nat.reduceEqDiff, reduceCtorEq, or_false, false_or, or_true, true_or, k0, m0, ea]
        exact fin _ 1 RN kN (P.kept kN (fun a j z => z)) (by rw [if_pos c])
      · simp (disch := omega) only [y_lit, y_lt_T, y_lt_F, y_le_T, y_le_F, y_eq_T, y_eq_F, y_in_T, y_cl, ↓reduceIte, y_bs, y_bvs, y_os, y_on, y_t, ne_eq, not_true_eq_false, not_false_eq_true, pk_mul, nI_add, y_ii, y_ia, y_il, y_ir, y_ai, y_aa, y_al, y_ar, y_li, y_la, y_ll, y_lr, y_ri, y_ra, y_rl, y_rr, and_true, true_and, and_false, false_and, and_self, if_true, if_false, Nat.reduceEqDiff, reduceCtorEq, or_false, false_or, or_true, true_or, k0, m0, ea]
        exact fin _ 0 RN kN (P.kept kN (fun a j z => z)) (by rw [if_neg c])
    · rw [if_neg c1l]
      simp (disch := omega) only [y_lit, y_lt_T, y_lt_F, y_le_T, y_le_F, y_eq_T, y_eq_F, y_in_T, y_cl, ↓reduceIte, y_bs, y_bvs, y_os, y_on, y_t, ne_eq, not_true_eq_false, not_false_eq_true, pk_mul, nI_add, y_ii, y_ia, y_il, y_ir, y_ai, y_aa, y_al, y_ar, y_li, y_la, y_ll, y_lr, y_ri, y_ra, y_rl, y_rr, and_true, true_and, and_false, false_and, and_self, if_true, if_false, Nat.reduceEqDiff, reduceCtorEq, or_false, false_or, or_true, true_or]
      refine qV_s ⟨⟨fun q hq => ?_, fun z => ?_, ?_, ?_, ?_, ?_⟩, (kp_i (SDi (by decide))).tr (kp_i (SDi (by decide)))⟩
      · match q, hq with
        | 0, _ => exact ea
        | 1, _ => exact eb
      · simp [q_i_p_i]; rfl
      · simp [q_i_p_i]; exact ek
      · simp [q_i_p_i]; rfl
      · simp [q_i_p_i]; exact ee
      · simp [q_i_p_i]; exact ez
theorem sX12_does (P : PY M E c0 c1) (h : v_ok nc E) {s : ST} (R : RST M s) (hs : v_w E s) {m : Nat} (hm : v_can E s m = true) (n : Bool) : qV (fX12_does M (nI m) (nI (if n then 1 else 0))) (fun N => RST N (v_a E s m n) ∧ kp SD M N) := by
  obtain ⟨h0, hm11, hcase⟩ := v_canI.mp hm
  have ht : s_t s < 2 := hs.1.2.2.2.1
  have hk3 : s_k s < 3 := hs.1.2.2.2.2.1
  obtain ⟨w1, w2, w3, w4, w5⟩ := hs.2 h0
  have e31 := R.2.1 h0
  have e32 := R.2.2.1
  have e1 : nI 1 - nI (s_t s) = nI (1 - s_t s) := pk_sub (by omega)
  have o1 := s_ol hs.1 (s_t s)
  have o2 := s_ol hs.1 (1 - s_t s)
  have hv := v_o_lt h hs.1 m n
  have oth : 1 - s_t s < 2 := by omega
  have kS : ∀ {N : QM}, kp (fun a j => a = 1000 ∧ j = 22) M N → kp SD M N := fun k => k.wd (fun a j z => SD22 z)
  -- what is owed the other stands: v_o
  have fin : ∀ {N : QM}, kp SD M N → (∀ q, q < 2 → q_a N 1000 30 q = nI (if q = s_t s then s_o s q else v_o E s m n)) → s_k s = 0 → q_i N 1000 32 = nI (if m = 8 then s_t s + 1 else 0) - nI 1 → (∀ j, 33 ≤ j → j ≤ 35 → q_i N 1000 j = q_i M 1000 j) → qV (fX12_does_b201 N (nI (1 - s_t s))) (fun N => RST N (v_a E s m n) ∧ kp SD M N) := fun {N} k ho hk hk2 hr => by
    have PN := P.kept k (fun a j z => z)
    have a0 := ho 0 (by decide)
    have a1 := ho 1 (by decide)
    have eA : nI (if 0 = s_t s then s_o s 0 else v_o E s m n) = nI (if s_t s = 0 then s_o s 0 else v_o E s m n) := by
      by_cases z : s_t s = 0
      · rw [if_pos z, if_pos z.symm]
      · rw [if_neg z, if_neg (fun q => z q.symm)]
    have eB : nI (if 1 = s_t s then s_o s 1 else v_o E s m n) = nI (if s_t s = 0 then v_o E s m n else s_o s 1) := by
      by_cases z : s_t s = 0
      · rw [if_pos z, if_neg (by omega)]
      · rw [if_neg z, if_pos (by omega)]
    have x0 := s_ol hs.1 0
    have x1 := s_ol hs.1 1
    refine (sX12_does_b201 PN h hs h0 (a := if s_t s = 0 then s_o s 0 else v_o E s m n) (b := if s_t s = 0 then v_o E s m n else s_o s 1) (k := if m = 8 then s_t s + 1 else 0) ?_ ?_ ?_ (a0.trans eA) (a1.trans eB) hk2 ((hr 33 (by decide) (by decide)).trans R.2.2.2.1) ?_ ?_).to (fun N2 g => ⟨?_, k.tr g.2⟩)
    · split <;> omega
    · split <;> omega
    · split <;> omega
    · rw [hr 34 (by decide) (by decide), R.2.2.2.2.1, h0]
    · rw [hr 35 (by decide) (by decide), R.2.2.2.2.2, w1]
    · unfold v_a
      rw [if_pos hk]
      exact g.1
  have sp := sX12_spoken P h R hs h0
  have kc := (P.2.2.2.2.1 _ oth).2
  have lc := c_e_lt6 P (1 - s_t s)
  have oO := R.1 (1 - s_t s) oth
  have b190 : ∀ {N : QM}, kp SD M N → (∀ q, q < 2 → q_a N 1000 30 q = nI (if q = s_t s then s_o s q else v_o E s m n)) → s_k s = 0 → (∀ j, 32 ≤ j → j ≤ 35 → q_i N 1000 j = q_i M 1000 j) → qV (fX12_does_b190 N (nI m) (nI (s_t s)) (nI (1 - s_t s))) (fun N => RST N (v_a E s m n) ∧ kp SD M N) := fun {N} k ho hk hr => by
    unfold fX12_does_b190
    by_cases e8 : m = 8
    · simp (disch := omega) only [y_lit, y_lt_T, y_lt_F, y_le_T, y_le_F, y_eq_T, y_eq_F, y_in_T, y_cl, ↓reduceIte, y_bs, y_bvs, y_os, y_on, y_t, ne_eq, not_true_eq_false, not_false_eq_true, pk_mul, nI_add]
      refine fin (k.tr (kp_i (SDi (by decide)))) ho hk ?_ (fun j h1 h2 => ?_)
      · rw [q_i_p_i, if_pos ⟨rfl, rfl⟩, if_pos e8, pk_sub (by omega), Nat.add_sub_cancel]
      · rw [q_i_p_i, if_neg (by omega)]
        exact hr j (by omega) h2
    · simp (disch := omega) only [y_lit, y_lt_T, y_lt_F, y_le_T, y_le_F, y_eq_T, y_eq_F, y_in_T, y_cl, ↓reduceIte, y_bs, y_bvs, y_os, y_on, y_t, ne_eq, not_true_eq_false, not_false_eq_true, pk_mul, nI_add]
      refine fin k ho hk ?_ (fun j h1 h2 => hr j (by omega) h2)
      rw [hr 32 (by decide) (by decide), e32, hk, if_neg e8]
  have same : ∀ {N : QM}, kp (fun a j => a = 1000 ∧ j = 22) M N → v_o E s m n = s_o s (1 - s_t s) → ∀ q, q < 2 → q_a N 1000 30 q = nI (if q = s_t s then s_o s q else v_o E s m n) := fun {N} k e q hq => by
    rw [k.a (by decide), R.1 q hq, e]
    by_cases z : q = s_t s
    · rw [if_pos z]
    · rw [if_neg z, show 1 - s_t s = q by omega]
  have put : ∀ {N : QM}, kp SD M N → (∀ q, q < 2 → q_a N 1000 30 q = nI (s_o s q)) → ∀ q, q < 2 → q_a (p_a N 1000 30 (1 - s_t s) (nI (v_o E s m n))) 1000 30 q = nI (if q = s_t s then s_o s q else v_o E s m n) := fun {N} k e q hq => by
    rw [q_a_p_a]
    by_cases z : q = s_t s
    · rw [if_neg (by omega), if_pos z, e q hq]
    · rw [if_pos ⟨rfl, rfl, by omega⟩, if_neg z]
  have b34 : (s_k s = 0 ∨ m = 9) → qV (fX12_does_b34 M (nI m) (nI (if n then 1 else 0)) (nI (s_t s)) (nI (1 - s_t s))) (fun N => RST N (v_a E s m n) ∧ kp SD M N) := fun hc => by
    unfold fX12_does_b34
    refine qV_bv (qV.to sp (fun N g => ?_))
    obtain ⟨hg, k1⟩ := g
    have PN := P.kept (kS k1) (fun a j z => z)
    have RN : RST N s := R.kept k1 (fun j z => by omega)
    have rc := PN.2.2.2.1 _ oth
    have mN := PN.2.2.2.2.2.2.2
    have kN := (PN.2.2.2.2.1 _ oth).2
    have oN := RN.1 (1 - s_t s) oth
    by_cases e9 : m = 9
    · have hk : s_k s ≠ 0 := by
        rcases hcase with ⟨z, y⟩ | ⟨z, -⟩
        · omega
        · exact z
      subst e9
      simp (disch := omega) only [y_lit, y_lt_T, y_lt_F, y_le_T, y_le_F, y_eq_T, y_eq_F, y_in_T, y_cl, ↓reduceIte, y_bs, y_bvs, y_os, y_on, y_t, ne_eq, not_true_eq_false, not_false_eq_true, pk_mul, nI_add, y_ii, y_ia, y_il, y_ir, y_ai, y_aa, y_al, y_ar, y_li, y_la, y_ll, y_lr, y_ri, y_ra, y_rl, y_rr, and_true, true_and, and_false, false_and, and_self, if_true, if_false, Nat.reduceEqDiff, reduceCtorEq, or_false, false_or, or_true, true_or, kN]
      have rc' : RC2 (p_i N 1000 34 (nI 3)) (c_e c0 c1 (1 - s_t s)) (v_c E (1 - s_t s)) := rc
      refine qV_k (sX12_mayRefuse (g := v_s E s) rc' (h.c oth) lc hg mN h.2.2.2.2.2.2.2) (fun r N1 g1 => ?_)
      obtain ⟨rfl, k2⟩ := g1
      have kk : kp SD M N1 := ((kS k1).tr (kp_i (SDi (by decide)))).tr (k2.wd (fun a j z => SD23 z))
      have R1 : RST N1 (s.1, s.2.1, s.2.2.1, s.2.2.2.1, s.2.2.2.2.1, 3, 0) := by
        refine ⟨fun q hq => (k2.a (by decide)).trans (RN.1 q hq), fun z => absurd z (show ¬ (3 = 0) by decide), (k2.i (by decide)).trans RN.2.2.1, (k2.i (by decide)).trans RN.2.2.2.1, (k2.i (by decide)).trans ?_, (k2.i (by decide)).trans ?_⟩
        · rw [q_i_p_i, if_pos ⟨rfl, rfl⟩]; rfl
        · rw [q_i_p_i, if_neg (by decide), RN.2.2.2.2.2, w1]; rfl
      have last : ∀ z : Nat, z = (if w_R (v_c E (1 - s_t s)) (v_s E s) = 0 then 1 + s_t s else 0) → qV (fX12_does_b71 N1 (nI z)) (fun N => RST N (v_a E s 9 n) ∧ kp SD M N) := fun z ez => by
        unfold fX12_does_b71
        simp (disch := omega) only [y_lit, y_lt_T, y_lt_F, y_le_T, y_le_F, y_eq_T, y_eq_F, y_in_T, y_cl, ↓reduceIte, y_bs, y_bvs, y_os, y_on, y_t, ne_eq, not_true_eq_false, not_false_eq_true, pk_mul, nI_add]
        refine qV_s ⟨?_, kk.tr (kp_i (SDi (by decide)))⟩
        unfold v_a
        rw [if_neg hk, if_neg (by decide), ← ez]
        refine ⟨R1.1, fun z => absurd z (show ¬ (3 = 0) by decide), R1.2.2.1, R1.2.2.2.1, R1.2.2.2.2.1, ?_⟩
        rw [q_i_p_i, if_pos ⟨rfl, rfl⟩]
        rfl
      by_cases w : w_R (v_c E (1 - s_t s)) (v_s E s) = 0
      · have es : nI 1 <<< (nI (s_t s) &&& nI 31) = nI (1 + s_t s) := by
          have : s_t s = 0 ∨ s_t s = 1 := by omega
          rcases this with e | e <;> rw [e] <;> decide
        rw [if_pos w] at last ⊢
        simp (disch := omega) only [y_lit, y_lt_T, y_lt_F, y_le_T, y_le_F, y_eq_T, y_eq_F, y_in_T, y_cl, ↓reduceIte, y_bs, y_bvs, y_os, y_on, y_t, ne_eq, not_true_eq_false, not_false_eq_true, pk_mul, nI_add, es]
        exact last _ rfl
      · rw [if_neg w] at last ⊢
        simp (disch := omega) only [y_lit, y_lt_T, y_lt_F, y_le_T, y_le_F, y_eq_T, y_eq_F, y_in_T, y_cl, ↓reduceIte, y_bs, y_bvs, y_os, y_on, y_t, ne_eq, not_true_eq_false, not_false_eq_true, pk_mul, nI_add]
        exact last _ rfl
    · have hk : s_k s = 0 := hc.resolve_right e9
      have hr : ∀ j, 32 ≤ j → j ≤ 35 → q_i N 1000 j = q_i M 1000 j := fun j h1 h2 => k1.i (by omega)
      by_cases hn : n = true ∧ m < 8
      · obtain ⟨hn, m8⟩ := hn
        subst hn
        by_cases m4 : m < 4
        · simp (disch := omega) only [y_lit, y_lt_T, y_lt_F, y_le_T, y_le_F, y_eq_T, y_eq_F, y_in_T, y_cl, ↓reduceIte, y_bs, y_bvs, y_os, y_on, y_t, ne_eq, not_true_eq_false, not_false_eq_true, pk_mul, nI_add, if_true, kN, oN]
          refine qV_k (sX12_degree (g := v_s E s) rc (h.c oth) lc hg mN h.2.2.2.2.2.2.2 m4) (fun r N1 g1 => ?_)
          obtain ⟨rfl, k2⟩ := g1
          have eo : v_o E s m true = min 15 (s_o s (1 - s_t s) + w_v (v_c E (1 - s_t s)) (v_s E s) m) := by
            unfold v_o
            rw [if_pos ⟨rfl, m8⟩, if_pos m4, w_Vs (h.c oth) _ _ m4]
          have hw := w_v_lt (h.c oth) (v_s E s) m
          have kk : kp SD M N1 := (kS k1).tr (k2.wd (fun a j z => SD23 z))
          have oN1 : ∀ q, q < 2 → q_a N1 1000 30 q = nI (s_o s q) := fun q hq => (k2.a (by decide)).trans (RN.1 q hq)
          have f := fin (kk.tr (kp_a (i := 1 - s_t s) (v := nI (v_o E s m true)) (SDi (j := 30) (by decide)))) (put kk oN1) hk (by
            rw [q_i_p_a, k2.i (by decide), hr 32 (by decide) (by decide), e32, hk, if_neg (by omega)]) (fun j h1 h2 => by rw [q_i_p_a, k2.i (by omega), hr j (by omega) h2])
          rw [nI_add]
          by_cases c : s_o s (1 - s_t s) + w_v (v_c E (1 - s_t s)) (v_s E s) m ≤ 15
          · rw [Nat.min_eq_right c] at eo
            rw [eo] at f
            simp (disch := omega) only [y_lit, y_lt_T, y_lt_F, y_le_T, y_le_F, y_eq_T, y_eq_F, y_in_T, y_cl, ↓reduceIte, y_bs, y_bvs, y_os, y_on, y_t, ne_eq, not_true_eq_false, not_false_eq_true, pk_mul, nI_add, fX12_does_b126]
            exact f
          · rw [Nat.min_eq_left (by omega)] at eo
            rw [eo] at f
            simp (disch := omega) only [y_lit, y_lt_T, y_lt_F, y_le_T, y_le_F, y_eq_T, y_eq_F, y_in_T, y_cl, ↓reduceIte, y_bs, y_bvs, y_os, y_on, y_t, ne_eq, not_true_eq_false, not_false_eq_true, pk_mul, nI_add, fX12_does_b126]
            exact f
        · have e4 : nI m - nI 4 = nI (m - 4) := pk_sub (by omega)
          simp (disch := omega) only [y_lit, y_lt_T, y_lt_F, y_le_T, y_le_F, y_eq_T, y_eq_F, y_in_T, y_cl, ↓reduceIte, y_bs, y_bvs, y_os, y_on, y_t, ne_eq, not_true_eq_false, not_false_eq_true, pk_mul, nI_add, if_true, kN, oN, fX12_does_b130, e4]
          refine qV_k (sX12_takes (g := v_s E s) rc (h.c oth) lc hg mN h.2.2.2.2.2.2.2 (show m - 4 < 4 by omega)) (fun r N1 g1 => ?_)
          obtain ⟨rfl, k2⟩ := g1
          rw [show 4 + (m - 4) = m by omega]
          have eo : v_o E s m true = s_o s (1 - s_t s) - w_V (v_c E (1 - s_t s)) (v_s E s) (v_m E) m := by
            unfold v_o
            rw [if_pos ⟨rfl, m8⟩, if_neg m4]
          have hw := w_V_lt (h.c oth) (v_s E s) (v_m E) m
          have kk : kp SD M N1 := (kS k1).tr (k2.wd (fun a j z => SD23 z))
          have oN1 : ∀ q, q < 2 → q_a N1 1000 30 q = nI (s_o s q) := fun q hq => (k2.a (by decide)).trans (RN.1 q hq)
          have f := fin (kk.tr (kp_a (i := 1 - s_t s) (v := nI (v_o E s m true)) (SDi (j := 30) (by decide)))) (put kk oN1) hk (by
            rw [q_i_p_a, k2.i (by decide), hr 32 (by decide) (by decide), e32, hk, if_neg (by omega)]) (fun j h1 h2 => by rw [q_i_p_a, k2.i (by omega), hr j (by omega) h2])
          rw [eo] at f
          by_cases c : w_V (v_c E (1 - s_t s)) (v_s E s) (v_m E) m ≤ s_o s (1 - s_t s)
          · simp (disch := omega) only [y_lit, y_lt_T, y_lt_F, y_le_T, y_le_F, y_eq_T, y_eq_F, y_in_T, y_cl, ↓reduceIte, y_bs, y_bvs, y_os, y_on, y_t, ne_eq, not_true_eq_false, not_false_eq_true, pk_mul, nI_add, fX12_does_b186, pk_sub c]
            exact f
          · rw [show s_o s (1 - s_t s) - w_V (v_c E (1 - s_t s)) (v_s E s) (v_m E) m = 0 by omega] at f
            have hneg : ¬ (nI 0 ≤ nI (s_o s (1 - s_t s)) - nI (w_V (v_c E (1 - s_t s)) (v_s E s) (v_m E) m)) := by
              have := pk_sneg (a := s_o s (1 - s_t s)) (b := w_V (v_c E (1 - s_t s)) (v_s E s) (v_m E) m) (by omega) (by omega)
              exact Int32.not_le.mpr this
            simp (disch := omega) only [y_lit, y_lt_T, y_lt_F, y_le_T, y_le_F, y_eq_T, y_eq_F, y_in_T, y_cl, ↓reduceIte, y_bs, y_bvs, y_os, y_on, y_t, ne_eq, not_true_eq_false, not_false_eq_true, pk_mul, nI_add, fX12_does_b186, hneg]
            exact f
      · have eo : v_o E s m n = s_o s (1 - s_t s) := v_o_s n hn
        have f := b190 (kS k1) (same k1 eo) hk hr
        have g130 : qV (fX12_does_b130 N (nI m) (nI (if n then 1 else 0)) (nI (s_t s)) (nI (1 - s_t s))) (fun N => RST N (v_a E s m n) ∧ kp SD M N) := by
          unfold fX12_does_b130
          by_cases m8 : m < 8
          · by_cases m4 : m ≤ 3
            · simp (disch := omega) only [y_lit, y_lt_T, y_lt_F, y_le_T, y_le_F, y_eq_T, y_eq_F, y_in_T, y_cl, ↓reduceIte, y_bs, y_bvs, y_os, y_on, y_t, ne_eq, not_true_eq_false, not_false_eq_true, pk_mul, nI_add]
              exact f
            · have : n = false := by
                cases n with
                | false => rfl
                | true => exact absurd ⟨rfl, m8⟩ hn
              subst this
              simp (disch := omega) only [y_lit, y_lt_T, y_lt_F, y_le_T, y_le_F, y_eq_T, y_eq_F, y_in_T, y_cl, ↓reduceIte, y_bs, y_bvs, y_os, y_on, y_t, ne_eq, not_true_eq_false, not_false_eq_true, pk_mul, nI_add, Bool.false_eq_true, if_false]
              exact f
          · simp (disch := omega) only [y_lit, y_lt_T, y_lt_F, y_le_T, y_le_F, y_eq_T, y_eq_F, y_in_T, y_cl, ↓reduceIte, y_bs, y_bvs, y_os, y_on, y_t, ne_eq, not_true_eq_false, not_false_eq_true, pk_mul, nI_add]
            exact f
        by_cases m4 : m < 4
        · have : n = false := by
            cases n with
            | false => rfl
            | true => exact absurd ⟨rfl, by omega⟩ hn
          subst this
          simp (disch := omega) only [y_lit, y_lt_T, y_lt_F, y_le_T, y_le_F, y_eq_T, y_eq_F, y_in_T, y_cl, ↓reduceIte, y_bs, y_bvs, y_os, y_on, y_t, ne_eq, not_true_eq_false, not_false_eq_true, pk_mul, nI_add, Bool.false_eq_true, if_false] at g130 ⊢
          exact g130
        · simp (disch := omega) only [y_lit, y_lt_T, y_lt_F, y_le_T, y_le_F, y_eq_T, y_eq_F, y_in_T, y_cl, ↓reduceIte, y_bs, y_bvs, y_os, y_on, y_t, ne_eq, not_true_eq_false, not_false_eq_true, pk_mul, nI_add]
          exact g130
  unfold fX12_does
  rw [e31, L1, e1]
  by_cases e8 : m = 8
  · by_cases hk : s_k s = 0
    · have e32' : ¬ (q_i M 1000 32 = nI (1 - s_t s)) := by
        rw [e32, hk]
        intro z
        have : s_t s = 0 ∨ s_t s = 1 := by omega
        rcases this with e | e <;> rw [e] at z <;> exact absurd z (by decide)
      have f := b34 (Or.inl hk)
      simp (disch := omega) only [y_lit, y_lt_T, y_lt_F, y_le_T, y_le_F, y_eq_T, y_eq_F, y_in_T, y_cl, ↓reduceIte, y_bs, y_bvs, y_os, y_on, y_t, ne_eq, not_true_eq_false, not_false_eq_true, pk_mul, nI_add, e32']
      exact f
    · have e32' : q_i M 1000 32 = nI (1 - s_t s) := by
        rw [e32, w5.resolve_left hk, pk_sub (by omega)]
        congr 1
        omega
      simp (disch := omega) only [y_lit, y_lt_T, y_lt_F, y_le_T, y_le_F, y_eq_T, y_eq_F, y_in_T, y_cl, ↓reduceIte, y_bs, y_bvs, y_os, y_on, y_t, ne_eq, not_true_eq_false, not_false_eq_true, pk_mul, nI_add, e32']
      refine qV_s ⟨?_, kp_i (SDi (by decide))⟩
      unfold v_a
      rw [if_neg hk, if_pos e8]
      refine ⟨R.1, fun z => absurd z (show ¬ (2 = 0) by decide), ?_, ?_, ?_, ?_⟩
      · rw [q_i_p_i, if_neg (by decide)]; exact R.2.2.1
      · rw [q_i_p_i, if_neg (by decide)]; exact R.2.2.2.1
      · rw [q_i_p_i, if_pos ⟨rfl, rfl⟩]; rfl
      · rw [q_i_p_i, if_neg (by decide), R.2.2.2.2.2, w1]; rfl
  · have f := b34 (by
      rcases hcase with ⟨z, -⟩ | ⟨-, z⟩
      · exact Or.inl z
      · exact Or.inr (z.resolve_left e8))
    simp (disch := omega) only [y_lit, y_lt_T, y_lt_F, y_le_T, y_le_F, y_eq_T, y_eq_F, y_in_T, y_cl, ↓reduceIte, y_bs, y_bvs, y_os, y_on, y_t, ne_eq, not_true_eq_false, not_false_eq_true, pk_mul, nI_add]
    exact f
theorem sX12_slightsFirst (P : PY M E c0 c1) (h : v_ok nc E) {kind : Nat} (hk : kind < 4) (n : Bool) : qV (fX12_slightsFirst M (nI kind) (nI (if n then 1 else 0))) (fun N => RST N (v_1 E kind n) ∧ kp SD M N) := by
  have hh := v_h_le h
  have kN : kp SD M (p_i (p_i (p_i (p_i (p_i (p_a (p_a M 1000 30 0 (nI 0)) 1000 30 1 (nI 0)) 1000 31 (nI 0)) 1000 32 (-nI 1)) 1000 33 (nI (v_h E))) 1000 34 (nI 0)) 1000 35 (nI 0)) := by
    refine kp.tr (kp.tr (kp.tr (kp.tr (kp.tr (kp.tr (kp_a ?_) (kp_a ?_)) (kp_i ?_)) (kp_i ?_)) (kp_i ?_)) (kp_i ?_)) (kp_i ?_) <;> exact SDi (by decide)
  have P0 := P.kept kN (fun a j z => z)
  have e29 : q_i M 1000 29 = nI (v_h E) := P.2.2.2.2.2.2.1
  unfold fX12_slightsFirst
  simp (disch := omega) only [y_lit, y_lt_T, y_lt_F, y_le_T, y_le_F, y_eq_T, y_eq_F, y_in_T, y_cl, ↓reduceIte, y_bs, y_bvs, y_os, y_on, y_t, ne_eq, not_true_eq_false, not_false_eq_true, pk_mul, nI_add, y_ii, y_ia, y_il, y_ir, y_ai, y_aa, y_al, y_ar, y_li, y_la, y_ll, y_lr, y_ri, y_ra, y_rl, y_rr, and_true, true_and, and_false, false_and, and_self, if_true, if_false, Nat.reduceEqDiff, reduceCtorEq, or_false, false_or, or_true, true_or, e29]
  refine qV_bv (qV.to (sX12_spokenC P0 h (t := 0) (x := 0) (y := 0) (l := v_h E) (by decide) ?_ ?_ ?_ ?_ (Nat.le_refl _)) (fun N g => ?_))
  · simp [q_i_p_i]
  · simp [q_a_p_i, q_a_p_a]
  · simp [q_a_p_i, q_a_p_a]
  · simp [q_i_p_i]
  obtain ⟨hg, k1⟩ := g
  rw [Nat.sub_self] at hg
  have kk : kp SD M N := kN.tr (k1.wd (fun a j z => SD22 z))
  have PN := P.kept kk (fun a j z => z)
  have fin : ∀ {N1 : QM} (x : Nat), kp (fun a j => a = 1000 ∧ (j = 23 ∨ j = 24)) N N1 → x < 16 → x = (if n then w_v (v_c E 1) (v_g E 0 0 0 0) kind else 0) → qV (fX12_slightsFirst_b70 N1 (nI x) (nI 1)) (fun N => RST N (v_1 E kind n) ∧ kp SD M N) := fun {N1} x k2 hx ex => by
    have a0 : q_a N1 1000 30 0 = nI 0 := (k2.a (by decide)).trans ((k1.a (by decide)).trans (by simp [q_a_p_i, q_a_p_a]))
    have a32 : q_i N1 1000 32 = nI 0 - nI 1 := (k2.i (by decide)).trans ((k1.i (by decide)).trans (by simp [q_i_p_i]; decide))
    have a33 : q_i N1 1000 33 = nI (v_h E) := (k2.i (by decide)).trans ((k1.i (by decide)).trans (by simp [q_i_p_i]))
    have a35 : q_i N1 1000 35 = nI 0 := (k2.i (by decide)).trans ((k1.i (by decide)).trans (by simp [q_i_p_i]))
    have pe := sX12_isPeace (M := p_i (p_a N1 1000 30 1 (nI x)) 1000 31 (nI 1)) (a := 0) (b := x) (k := 0) (by decide) hx (by decide) (by simp [q_a_p_i, q_a_p_a]; exact a0) (by simp [q_a_p_i, q_a_p_a]) (by simp [q_i_p_i, q_i_p_a]; exact a32)
    have kz : kp SD M N1 := kk.tr (k2.wd (fun a j z => SD23 z))
    have last : ∀ e : Nat, e = (if x = 0 then 1 else 0) → qV (fX12_slightsFirst_b89 (p_i (p_a N1 1000 30 1 (nI x)) 1000 31 (nI 1)) (nI e)) (fun N => RST N (v_1 E kind n) ∧ kp SD M N) := fun e ee => by
      unfold fX12_slightsFirst_b89 v_1
      rw [← ex, ← ee]
      simp (disch := omega) only [y_lit, y_lt_T, y_lt_F, y_le_T, y_le_F, y_eq_T, y_eq_F, y_in_T, y_cl, ↓reduceIte, y_bs, y_bvs, y_os, y_on, y_t, ne_eq, not_true_eq_false, not_false_eq_true, pk_mul, nI_add]
      refine qV_s ⟨⟨fun q hq => ?_, fun _ => ?_, ?_, ?_, ?_, ?_⟩, kz.tr (kp.tr (kp.tr (kp_a (SDi (by decide))) (kp_i (SDi (by decide)))) (kp_i (SDi (by decide))))⟩
      · match q, hq with
        | 0, _ => simp [q_a_p_i, q_a_p_a]; exact a0
        | 1, _ => simp [q_a_p_i, q_a_p_a]; rfl
      · simp [q_i_p_i, q_i_p_a]; rfl
      · simp [q_i_p_i, q_i_p_a]; exact a32
      · simp [q_i_p_i, q_i_p_a]; exact a33
      · simp [q_i_p_i, q_i_p_a]; rfl
      · simp [q_i_p_i, q_i_p_a]; exact a35
    unfold fX12_slightsFirst_b70
    by_cases z : x = 0
    · have l := last 1 (by rw [if_pos z])
      subst z
      simp (disch := omega) only [y_lit, y_lt_T, y_lt_F, y_le_T, y_le_F, y_eq_T, y_eq_F, y_in_T, y_cl, ↓reduceIte, y_bs, y_bvs, y_os, y_on, y_t, ne_eq, not_true_eq_false, not_false_eq_true, pk_mul, nI_add, pe, and_self, if_true] at l ⊢
      exact l
    · have l := last 0 (by rw [if_neg z])
      simp (disch := omega) only [y_lit, y_lt_T, y_lt_F, y_le_T, y_le_F, y_eq_T, y_eq_F, y_in_T, y_cl, ↓reduceIte, y_bs, y_bvs, y_os, y_on, y_t, ne_eq, not_true_eq_false, not_false_eq_true, pk_mul, nI_add, pe, z, and_false, false_and, if_false] at l ⊢
      exact l
  have kc := (PN.2.2.2.2.1 1 (by decide)).2
  have lc := c_e_lt6 P 1
  cases n with
  | false =>
    have f := fin 0 kp.rf (by decide) rfl
    simp (disch := omega) only [y_lit, y_lt_T, y_lt_F, y_le_T, y_le_F, y_eq_T, y_eq_F, y_in_T, y_cl, ↓reduceIte, y_bs, y_bvs, y_os, y_on, y_t, ne_eq, not_true_eq_false, not_false_eq_true, pk_mul, nI_add, Bool.false_eq_true, if_false]
    exact f
  | true =>
    simp (disch := omega) only [y_lit, y_lt_T, y_lt_F, y_le_T, y_le_F, y_eq_T, y_eq_F, y_in_T, y_cl, ↓reduceIte, y_bs, y_bvs, y_os, y_on, y_t, ne_eq, not_true_eq_false, not_false_eq_true, pk_mul, nI_add, if_true, kc]
    refine qV_k (sX12_degree (g := v_g E 0 0 0 0) (PN.2.2.2.1 1 (by decide)) (h.c (by decide)) lc hg PN.2.2.2.2.2.2.2 h.2.2.2.2.2.2.2 hk) (fun r N1 g1 => ?_)
    obtain ⟨rfl, k2⟩ := g1
    exact fin _ k2 (w_v_lt (h.c (by decide)) _ _) rfl
end DOES
