/-! a clause's test: the reference -/
theorem y_and15 {n : Nat} (h : n < 4294967296) : nI n &&& nI 15 = nI (n % 16) := pk_andN h 4 (by decide)
theorem y_shr4 {n : Nat} (h : n < 2147483648) : nI n >>> (nI 4 &&& nI 31) = nI (n / 16) := pk_shrN h _ 4 (by decide)
section ISTRUE
variable {C : CD} {M : QM} {t : Nat} {g : Nat → Int32}
theorem sX12_push {N : QM} {st : List Int32} (h1 : q_i N 1000 24 = nI st.length) (hs : stk (fun k => q_a N 1000 23 k) st) (hl : st.length < 64) (x : Int32) :
    qV (fX12_push N x) (fun N1 => q_i N1 1000 24 = nI (x :: st).length ∧ stk (fun k => q_a N1 1000 23 k) (x :: st) ∧ kp (fun a j => a = 1000 ∧ (j = 23 ∨ j = 24)) N N1) := by
  unfold fX12_push
  simp (disch := omega) only [h1, y_lit, y_lt_T, y_lt_F, y_le_T, y_le_F, y_eq_T, y_eq_F, y_in_T, y_cl, ↓reduceIte, y_bs, y_bvs, y_os, y_on, y_t, ne_eq, not_true_eq_false, not_false_eq_true, pk_mul, nI_add, y_ii, y_ia, y_il, y_ir, y_ai, y_aa, y_al, y_ar, y_li, y_la, y_ll, y_lr, y_ri, y_ra, y_rl, y_rr, and_true, true_and, and_false, false_and, and_self, if_true, if_false, Nat.reduceEqDiff, reduceCtorEq, or_false, false_or, or_true, true_or, List.length_cons]
  refine ⟨_, rfl, ?_, ⟨?_, stk_up hs (fun k hk => ?_)⟩, kp.tr (kp_a ⟨rfl, Or.inl rfl⟩) (kp_i ⟨rfl, Or.inr rfl⟩)⟩
  · rw [q_i_p_i, if_pos ⟨rfl, rfl⟩]
  · show q_a (p_i (p_a N 1000 23 st.length x) 1000 24 (nI (st.length + 1))) 1000 23 st.length = x
    rw [q_a_p_i, q_a_p_a, if_pos ⟨rfl, rfl, rfl⟩]
  · show q_a (p_i (p_a N 1000 23 st.length x) 1000 24 (nI (st.length + 1))) 1000 23 k = _
    rw [q_a_p_i, q_a_p_a, if_neg (by omega)]
theorem sX12_pop {N : QM} {x : Int32} {st : List Int32} (h1 : q_i N 1000 24 = nI (st.length + 1)) (hs : stk (fun k => q_a N 1000 23 k) (x :: st)) (hl : st.length < 64) :
    qW (fX12_pop N) (fun v N1 => v = x ∧ q_i N1 1000 24 = nI st.length ∧ stk (fun k => q_a N1 1000 23 k) st ∧ kp (fun a j => a = 1000 ∧ (j = 23 ∨ j = 24)) N N1) := by
  have es : nI (st.length + 1) - nI 1 = nI st.length := pk_sub (by omega)
  have ex : q_a N 1000 23 st.length = x := hs.1
  unfold fX12_pop
  simp (disch := omega) only [h1, es, y_lit, y_lt_T, y_lt_F, y_le_T, y_le_F, y_eq_T, y_eq_F, y_in_T, y_cl, ↓reduceIte, y_bs, y_bvs, y_os, y_on, y_t, ne_eq, not_true_eq_false, not_false_eq_true, pk_mul, nI_add, y_ii, y_ia, y_il, y_ir, y_ai, y_aa, y_al, y_ar, y_li, y_la, y_ll, y_lr, y_ri, y_ra, y_rl, y_rr, and_true, true_and, and_false, false_and, and_self, if_true, if_false, Nat.reduceEqDiff, reduceCtorEq, or_false, false_or, or_true, true_or, ex]
  exact qW_s ⟨rfl, by rw [q_i_p_i, if_pos ⟨rfl, rfl⟩], hs.2, kp_i ⟨rfl, Or.inr rfl⟩⟩
theorem sX12_compared (M : QM) {op : Nat} (h4 : 4 ≤ op) (h9 : op < 9) (x y : Int32) : fX12_compared M (nI op) x y = some (e_b op x y, M) := by
  have : op = 4 ∨ op = 5 ∨ op = 6 ∨ op = 7 ∨ op = 8 := by omega
  unfold fX12_compared e_b fX12_compared_b84
  rcases this with h | h | h | h | h <;> subst h <;> simp (disch := omega) only [y_lit, y_lt_T, y_lt_F, y_le_T, y_le_F, y_eq_T, y_eq_F, y_in_T, y_cl, ↓reduceIte, y_bs, y_bvs, y_os, y_on, y_t, ne_eq, not_true_eq_false, not_false_eq_true, pk_mul, nI_add, Nat.reduceEqDiff, if_true, if_false]
  · by_cases c : x < y
    · rw [if_neg (Int32.not_le.mpr c), if_pos c]
    · rw [if_pos (Int32.not_lt.mp c), if_neg c]
  · by_cases c : x ≤ y
    · rw [if_neg (Int32.not_lt.mpr c), if_pos c]
    · rw [if_pos (Int32.not_le.mp c), if_neg c]
  · by_cases c : x = y
    · rw [if_neg (fun z => z c), if_pos c]
    · rw [if_pos c, if_neg c]
  · by_cases c : x < y
    · rw [if_pos c, if_neg (Int32.not_le.mpr c)]
    · rw [if_neg c, if_pos (Int32.not_lt.mp c)]
  · by_cases c : x ≤ y
    · rw [if_pos c, if_neg (Int32.not_lt.mpr c)]
    · rw [if_neg c, if_pos (Int32.not_le.mp c)]
theorem sX12_isTrue_b8 (hC : RC2 M t C) (ht6 : t < 6) (hz : c_z C ≤ 256) (hv : ∀ j, j < c_z C → (c_p C j).2 < 10000) (hg : ∀ w, w < 10 → q_a M 1000 22 w = g w) {e : Nat} (he : e ≤ c_z C) : ∀ (n i q : Nat) (N : QM) (ts : List Bool) (st : List Int32), i + n = e → n < q → kp (fun a j => a = 1000 ∧ (j = 23 ∨ j = 24)) M N →
    q_i N 1000 24 = nI st.length → stk (fun k => q_a N 1000 23 k) st → t_ok ts st → t_n (c_p C) n i ts = some [true] → st.length ≤ 64 →
    qW (fX12_isTrue_b8 q N (nI t) (nI e) (nI i)) (fun v N1 => v = (e_n g (c_p C) n i st).headD 1 ∧ kp (fun a j => a = 1000 ∧ (j = 23 ∨ j = 24)) M N1) := by
  intro n
  induction n with
  | zero =>
    intro i q N ts st hi hq k hl hs ok ht1 hL
    obtain ⟨q, rfl⟩ : ∃ p, q = p + 1 := ⟨q - 1, by omega⟩
    have e1 : i = e := hi
    subst e1
    cases ht1
    obtain ⟨x, t2, rfl, hx, ht⟩ := t_one ok
    have h0 : t2 = [] := by
      cases t2 with
      | nil => rfl
      | cons _ _ => exact ht.elim
    subst h0
    simp (disch := omega) only [fX12_isTrue_b8, y_lit, y_lt_T, y_lt_F, y_le_T, y_le_F, y_eq_T, y_eq_F, y_in_T, y_cl, ↓reduceIte, y_bs, y_bvs, y_os, y_on, y_t, ne_eq, not_true_eq_false, not_false_eq_true, pk_mul, nI_add, fX12_isTrue_b192]
    refine qW_k (sX12_pop hl hs (by decide)) (fun v N1 g1 => ?_)
    obtain ⟨rfl, -, -, k1⟩ := g1
    rcases hx rfl with hx | hx
    · subst hx
      rw [if_pos (by decide)]
      exact qW_s ⟨rfl, k.tr k1⟩
    · subst hx
      rw [if_neg (by decide)]
      exact qW_s ⟨rfl, k.tr k1⟩
  | succ n ih =>
    intro i q N ts st hi hq k hl hs ok ht1 hL
    obtain ⟨q, rfl⟩ : ∃ p, q = p + 1 := ⟨q - 1, by omega⟩
    have ep : q_a N 1000 6 (400 * t + i) = nI ((c_p C i).1 + 16 * (c_p C i).2) := (k.a (by decide)).trans (hC.2.2.2.2.2.2 i (by omega))
    have hv2 := hv i (by omega)
    unfold t_n at ht1
    cases e1 : t_1 (c_p C i) ts with
    | none => rw [e1] at ht1; cases ht1
    | some vs =>
      rw [e1] at ht1
      obtain ⟨ok2, how⟩ := t_step (g := g) e1 ok
      have nx := fun N1 k1 l1 s1 b1 => ih (i + 1) q N1 vs (e_1 g (c_p C i) st) (by omega) (by omega) k1 l1 s1 ok2 ht1 b1
      have eN : e_n g (c_p C) (n + 1) i st = e_n g (c_p C) n (i + 1) (e_1 g (c_p C i) st) := rfl
      have h12 : (c_p C i).1 < 12 := by rcases how with h | h | h | h <;> omega
      have a1 : ((c_p C i).1 + 16 * (c_p C i).2) % 16 = (c_p C i).1 := by omega
      have a2 : ((c_p C i).1 + 16 * (c_p C i).2) / 16 = (c_p C i).2 := by omega
      rw [eN]
      simp (disch := omega) only [fX12_isTrue_b8, y_lit, y_lt_T, y_lt_F, y_le_T, y_le_F, y_eq_T, y_eq_F, y_in_T, y_cl, ↓reduceIte, y_bs, y_bvs, y_os, y_on, y_t, ne_eq, not_true_eq_false, not_false_eq_true, pk_mul, nI_add, ep, y_and15, y_shr4, a1, a2]
      rcases how with ⟨h0, h1, h2, h3⟩ | ⟨h0, h1, h2, h3⟩ | ⟨h0, x, t2, h2, h3⟩ | ⟨h0, h1, h9, y, x, t2, h2, h3⟩
      · rw [h3] at nx ⊢
        simp (disch := omega) only [y_lit, y_lt_T, y_lt_F, y_le_T, y_le_F, y_eq_T, y_eq_F, y_in_T, y_cl, ↓reduceIte, y_bs, y_bvs, y_os, y_on, y_t, ne_eq, not_true_eq_false, not_false_eq_true, pk_mul, nI_add, h0]
        refine qW_kv (sX12_push hl hs h2 _) (fun N1 g1 => ?_)
        simp only [fX12_isTrue_b186, y_lit, nI_add]
        exact nx N1 (k.tr g1.2.2) g1.1 g1.2.1 (by simp only [List.length_cons]; omega)
      · have ew : q_a N 1000 22 (c_p C i).2 = g (c_p C i).2 := (k.a (by decide)).trans (hg _ h1)
        rw [h3] at nx ⊢
        simp (disch := omega) only [y_lit, y_lt_T, y_lt_F, y_le_T, y_le_F, y_eq_T, y_eq_F, y_in_T, y_cl, ↓reduceIte, y_bs, y_bvs, y_os, y_on, y_t, ne_eq, not_true_eq_false, not_false_eq_true, pk_mul, nI_add, h0, ew]
        refine qW_kv (sX12_push hl hs h2 _) (fun N1 g1 => ?_)
        simp only [fX12_isTrue_b186, y_lit, nI_add]
        exact nx N1 (k.tr g1.2.2) g1.1 g1.2.1 (by simp only [List.length_cons]; omega)
      · subst h2
        rw [h3] at nx ⊢
        simp only [List.length_cons] at hL
        simp (disch := omega) only [y_lit, y_lt_T, y_lt_F, y_le_T, y_le_F, y_eq_T, y_eq_F, y_in_T, y_cl, ↓reduceIte, y_bs, y_bvs, y_os, y_on, y_t, ne_eq, not_true_eq_false, not_false_eq_true, pk_mul, nI_add, h0]
        refine qW_k (sX12_pop hl hs (by omega)) (fun v N1 g1 => ?_)
        obtain ⟨rfl, l1, s1, k1⟩ := g1
        refine qW_kv (sX12_push l1 s1 (by omega) _) (fun N2 g2 => ?_)
        simp only [fX12_isTrue_b186, y_lit, nI_add]
        exact nx N2 ((k.tr k1).tr g2.2.2) g2.1 g2.2.1 (by simp only [List.length_cons]; omega)
      · subst h2
        rw [h3] at nx ⊢
        simp only [List.length_cons] at hL
        have n0 : (c_p C i).1 ≠ 0 := by omega
        have n1 : (c_p C i).1 ≠ 1 := by omega
        simp (disch := omega) only [y_lit, y_lt_T, y_lt_F, y_le_T, y_le_F, y_eq_T, y_eq_F, y_in_T, y_cl, ↓reduceIte, y_bs, y_bvs, y_os, y_on, y_t, ne_eq, not_true_eq_false, not_false_eq_true, pk_mul, nI_add]
        refine qW_k (sX12_pop hl hs (by simp only [List.length_cons]; omega)) (fun vy N1 g1 => ?_)
        obtain ⟨rfl, l1, s1, k1⟩ := g1
        refine qW_k (sX12_pop l1 s1 (by omega)) (fun vx N2 g2 => ?_)
        obtain ⟨rfl, l2, s2, k2⟩ := g2
        have fin : qW (fX12_isTrue_b183 (fun M x1 x3 x4 => fX12_isTrue_b8 q M x1 x3 x4) N2 (nI t) (nI e) (nI i) (e_b (c_p C i).1 vx vy)) (fun v_1 N1 => v_1 = (e_n g (c_p C) n (i + 1) (e_b (c_p C i).1 vx vy :: t2)).headD 1 ∧ kp (fun a j => a = 1000 ∧ (j = 23 ∨ j = 24)) M N1) := by
          unfold fX12_isTrue_b183
          refine qW_kv (sX12_push l2 s2 (by omega) _) (fun N3 g3 => ?_)
          simp only [fX12_isTrue_b186, y_lit, nI_add]
          exact nx N3 (((k.tr k1).tr k2).tr g3.2.2) g3.1 g3.2.1 (by simp only [List.length_cons]; omega)
        by_cases o2 : (c_p C i).1 = 2
        · rw [o2] at fin ⊢
          simp (disch := omega) only [y_lit, y_lt_T, y_lt_F, y_le_T, y_le_F, y_eq_T, y_eq_F, y_in_T, y_cl, ↓reduceIte, y_bs, y_bvs, y_os, y_on, y_t, ne_eq, not_true_eq_false, not_false_eq_true, pk_mul, nI_add]
          exact fin
        by_cases o3 : (c_p C i).1 = 3
        · rw [o3] at fin ⊢
          simp (disch := omega) only [y_lit, y_lt_T, y_lt_F, y_le_T, y_le_F, y_eq_T, y_eq_F, y_in_T, y_cl, ↓reduceIte, y_bs, y_bvs, y_os, y_on, y_t, ne_eq, not_true_eq_false, not_false_eq_true, pk_mul, nI_add]
          exact fin
        by_cases o10 : (c_p C i).1 = 10
        · rw [o10] at fin ⊢
          simp (disch := omega) only [y_lit, y_lt_T, y_lt_F, y_le_T, y_le_F, y_eq_T, y_eq_F, y_in_T, y_cl, ↓reduceIte, y_bs, y_bvs, y_os, y_on, y_t, ne_eq, not_true_eq_false, not_false_eq_true, pk_mul, nI_add]
          exact fin
        by_cases o11 : (c_p C i).1 = 11
        · rw [o11] at fin ⊢
          simp (disch := omega) only [y_lit, y_lt_T, y_lt_F, y_le_T, y_le_F, y_eq_T, y_eq_F, y_in_T, y_cl, ↓reduceIte, y_bs, y_bvs, y_os, y_on, y_t, ne_eq, not_true_eq_false, not_false_eq_true, pk_mul, nI_add]
          exact fin
        simp (disch := omega) only [y_lit, y_lt_T, y_lt_F, y_le_T, y_le_F, y_eq_T, y_eq_F, y_in_T, y_cl, ↓reduceIte, y_bs, y_bvs, y_os, y_on, y_t, ne_eq, not_true_eq_false, not_false_eq_true, pk_mul, nI_add, sX12_compared N2 (show 4 ≤ (c_p C i).1 by omega) (show (c_p C i).1 < 9 by omega)]
        exact fin
theorem sX12_isTrue (hC : RC2 M t C) (ok : c_ok C) (ht6 : t < 6) (hg : ∀ w, w < 10 → q_a M 1000 22 w = g w) {c : Nat} (hc : c < c_n C) (hft : c_f C c < c_t C c) :
    qW (fX12_isTrue M (nI t) (nI (c_f C c)) (nI (c_t C c))) (fun v N1 => v = c_I C g c ∧ kp (fun a j => a = 1000 ∧ (j = 23 ∨ j = 24)) M N1) := by
  have o1 := ok.2.2.2.2.2.2.1 c hc
  have e := o1.2.2.2.2.2.resolve_left (fun z => by omega)
  have hz := ok.2.2.2.2.2.1
  unfold fX12_isTrue
  refine qW_t ?_
  refine (sX12_isTrue_b8 (g := g) (e := c_t C c) (M := p_i M 1000 24 0) ?_ ht6 ok.2.2.2.2.2.1 ok.2.2.2.2.2.2.2.1 hg o1.2.2.2.2.1 (c_t C c - c_f C c) (c_f C c) q_F _ [] [] (by omega) (q_Fn (by omega)) kp.rf ?_ trivial trivial e.2 (by decide)).to (fun v N1 g1 => ⟨g1.1, (kp_i ⟨rfl, Or.inr rfl⟩ : kp _ M (p_i M 1000 24 0)).tr g1.2⟩)
  · exact hC
  · rw [q_i_p_i, if_pos ⟨rfl, rfl⟩]; rfl
end ISTRUE
