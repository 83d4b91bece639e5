/-! a clause's test: the class -/
section HOLDS
variable {C : CD} {M : QM} {o so : Nat} {g : Nat → Int32}
theorem z_1_0 {p : STP} (h : p.1 = 0) : z_1 p = nI p.2 := if_pos h
theorem z_1_1 {p : STP} (h : p.1 = 1) : z_1 p = nI (10000 + p.2) := by
  unfold z_1
  rw [if_neg (by omega), if_pos h]
theorem z_1_2 {p : STP} (h : 2 ≤ p.1) : z_1 p = nI (20000 + (p.1 - 2)) := by
  unfold z_1
  rw [if_neg (by omega), if_neg (by omega)]
theorem sX2_joined (M : QM) {op : Nat} (h2 : 2 ≤ op) (h12 : op < 12) (h9 : op ≠ 9) (x y : Int32) : fX2_joined M (nI (20000 + (op - 2))) x y = some (e_b op x y, M) := by
  have : op = 2 ∨ op = 3 ∨ op = 4 ∨ op = 5 ∨ op = 6 ∨ op = 7 ∨ op = 8 ∨ op = 10 ∨ op = 11 := by omega
  unfold fX2_joined e_b
  rcases this with h | h | h | h | h | h | h | h | h <;> subst h <;> simp (disch := omega) only [y_lit, y_lt_T, y_lt_F, y_le_T, y_le_F, y_eq_T, y_eq_F, y_in_T, y_cl, ↓reduceIte, y_bs, y_bvs, y_os, y_on, y_t, ne_eq, not_true_eq_false, not_false_eq_true, pk_mul, nI_add, Nat.reduceEqDiff, Nat.reduceSub, Nat.reduceAdd, if_true, if_false]
  · by_cases c : x < y
    · rw [if_neg (Int32.not_le.mpr c), if_pos c]
    · rw [if_pos (Int32.not_lt.mp c), if_neg c]
  · by_cases c : x ≤ y
    · rw [if_neg (Int32.not_lt.mpr c), if_pos c]
    · rw [if_pos (Int32.not_le.mp c), if_neg c]
  · by_cases c : x = y
    · rw [if_neg (fun z => z c), if_pos c]
    · rw [if_pos c, if_neg c]
  · by_cases c : x < y
    · rw [if_pos c, if_neg (Int32.not_le.mpr c)]
    · rw [if_neg c, if_pos (Int32.not_lt.mp c)]
  · by_cases c : x ≤ y
    · rw [if_pos c, if_neg (Int32.not_lt.mpr c)]
    · rw [if_neg c, if_pos (Int32.not_le.mp c)]
theorem sX6_valueOf {w : Nat} (hw : w < 10) (hg : ∀ w, w < 10 → q_a M so 0 w = g w) : fX6_valueOf M so (nI w) = some (g w, M) := by
  unfold fX6_valueOf
  simp (disch := omega) only [y_lit, y_lt_T, y_lt_F, y_le_T, y_le_F, y_eq_T, y_eq_F, y_in_T, y_cl, ↓reduceIte, y_bs, y_bvs, y_os, y_on, y_t, ne_eq, not_true_eq_false, not_false_eq_true, pk_mul, nI_add]
  rw [hg w hw]
theorem sX2_holds_b10 (hC : RC1 M o C) (hso : so ≠ o) (hg : ∀ w, w < 10 → q_a M so 0 w = g w) {c : Nat} (hc : c < c_n C) (h14 : c_n C ≤ 14) (hz : c_z C ≤ 256) (ht : c_t C c ≤ c_z C) : ∀ (n i q : Nat) (N : QM) (ts us : List Bool) (st : List Int32), i + n = c_t C c → n < q → kp (fun a j => a = o ∧ j = 6) M N →
    stk (fun k => q_a N o 6 k) st → t_ok ts st → t_n (c_p C) n i ts = some us → us.length ≤ 1 → st.length ≤ 64 →
    qW (fX2_holds_b10 q N o (nI c) so (nI st.length) (nI i)) (fun v N1 => v = (if (e_n g (c_p C) n i st).headD 1 = 0 then 0 else 1) ∧ kp (fun a j => a = o ∧ j = 6) M N1) := by
  have gC := hC.2.2.2.2.1 c hc
  have no : ∀ {j : Nat}, j ≠ 6 → ¬ (o = o ∧ j = 6) := fun h z => h z.2
  intro n
  induction n with
  | zero =>
    intro i q N ts us st hi hq k hs ok ht1 hu hL
    obtain ⟨q, rfl⟩ : ∃ p, q = p + 1 := ⟨q - 1, by omega⟩
    have e : i = c_t C c := hi
    subst e
    have et : q_a N o 4 c = nI (c_t C c) := (k.a (no (by decide))).trans gC.2.2.2.2
    cases ht1
    have hl := t_len ok
    simp (disch := omega) only [fX2_holds_b10, y_lit, y_lt_T, y_lt_F, y_le_T, y_le_F, y_eq_T, y_eq_F, y_in_T, y_cl, ↓reduceIte, y_bs, y_bvs, y_os, y_on, y_t, ne_eq, not_true_eq_false, not_false_eq_true, pk_mul, nI_add, et, fX2_holds_b162]
    match st, hl, hs with
    | [], _, _ =>
      exact qW_s ⟨rfl, k⟩
    | [x], _, hs =>
      have e0 : q_a N o 6 0 = x := hs.1
      simp (disch := omega) only [y_lit, y_lt_T, y_lt_F, y_le_T, y_le_F, y_eq_T, y_eq_F, y_in_T, y_cl, ↓reduceIte, y_bs, y_bvs, y_os, y_on, y_t, ne_eq, not_true_eq_false, not_false_eq_true, pk_mul, nI_add, List.length_cons, List.length_nil, e0]
      by_cases cx : x = nI 0
      · rw [if_pos cx]
        exact qW_s ⟨(if_pos cx).symm, k⟩
      · rw [if_neg cx]
        exact qW_s ⟨(if_neg cx).symm, k⟩
    | x :: y :: t, hl, _ => simp only [List.length_cons] at hl; omega
  | succ n ih =>
    intro i q N ts us st hi hq k hs ok ht1 hu hL
    obtain ⟨q, rfl⟩ : ∃ p, q = p + 1 := ⟨q - 1, by omega⟩
    have et : q_a N o 4 c = nI (c_t C c) := (k.a (no (by decide))).trans gC.2.2.2.2
    have ep : q_a N o 5 i = z_1 (c_p C i) := (k.a (no (by decide))).trans (hC.2.2.2.2.2 i (by omega))
    unfold t_n at ht1
    cases e1 : t_1 (c_p C i) ts with
    | none => rw [e1] at ht1; cases ht1
    | some vs =>
      rw [e1] at ht1
      obtain ⟨ok2, how⟩ := t_step (g := g) e1 ok
      have nx := fun N1 k1 s1 l1 => ih (i + 1) q N1 vs us (e_1 g (c_p C i) st) (by omega) (by omega) k1 s1 ok2 ht1 hu l1
      have eN : e_n g (c_p C) (n + 1) i st = e_n g (c_p C) n (i + 1) (e_1 g (c_p C i) st) := rfl
      rw [eN]
      simp (disch := omega) only [fX2_holds_b10, y_lit, y_lt_T, y_lt_F, y_le_T, y_le_F, y_eq_T, y_eq_F, y_in_T, y_cl, ↓reduceIte, y_bs, y_bvs, y_os, y_on, y_t, ne_eq, not_true_eq_false, not_false_eq_true, pk_mul, nI_add, et, ep]
      rcases how with ⟨h0, h1, h2, h3⟩ | ⟨h0, h1, h2, h3⟩ | ⟨h0, x, t, h2, h3⟩ | ⟨h0, h1, h9, y, x, t, h2, h3⟩
      · rw [z_1_0 h0]
        rw [h3] at nx ⊢
        simp (disch := omega) only [y_lit, y_lt_T, y_lt_F, y_le_T, y_le_F, y_eq_T, y_eq_F, y_in_T, y_cl, ↓reduceIte, y_bs, y_bvs, y_os, y_on, y_t, ne_eq, not_true_eq_false, not_false_eq_true, pk_mul, nI_add, fX2_holds_b80, fX2_holds_b156]
        refine nx _ (k.tr (kp_a ⟨rfl, rfl⟩)) ⟨?_, stk_up hs (fun j hj => ?_)⟩ (by simp only [List.length_cons]; omega)
        · simp only [q_a_p_a]; rfl
        · simp only [q_a_p_a]
          rw [if_neg (by omega)]
      · rw [z_1_1 h0]
        rw [h3] at nx ⊢
        have ew : nI (10000 + (c_p C i).2) - nI 10000 = nI (c_p C i).2 := by rw [pk_sub (by omega), Nat.add_sub_cancel_left]
        have hgN : ∀ w, w < 10 → q_a N so 0 w = g w := fun w hw => (k.a (fun z => hso z.1)).trans (hg w hw)
        simp (disch := omega) only [y_lit, y_lt_T, y_lt_F, y_le_T, y_le_F, y_eq_T, y_eq_F, y_in_T, y_cl, ↓reduceIte, y_bs, y_bvs, y_os, y_on, y_t, ne_eq, not_true_eq_false, not_false_eq_true, pk_mul, nI_add, fX2_holds_b80, fX2_holds_b156, ew, sX6_valueOf h1 hgN]
        refine nx _ (k.tr (kp_a ⟨rfl, rfl⟩)) ⟨?_, stk_up hs (fun j hj => ?_)⟩ (by simp only [List.length_cons]; omega)
        · simp only [q_a_p_a]; rfl
        · simp only [q_a_p_a]
          rw [if_neg (by omega)]
      · subst h2
        rw [z_1_2 (by omega), h0]
        rw [h3] at nx ⊢
        have ex : q_a N o 6 t.length = x := hs.1
        have es : nI (t.length + 1) - nI 1 = nI t.length := pk_sub (by omega)
        have hl : (x :: t).length = t.length + 1 := rfl
        have hb : t.length < 64 := by
          simp only [List.length_cons] at hL
          omega
        simp (disch := omega) only [y_lit, y_lt_T, y_lt_F, y_le_T, y_le_F, y_eq_T, y_eq_F, y_in_T, y_cl, ↓reduceIte, y_bs, y_bvs, y_os, y_on, y_t, ne_eq, not_true_eq_false, not_false_eq_true, pk_mul, nI_add, fX2_holds_b156, hl, es, ex]
        refine nx _ (k.tr (kp_a ⟨rfl, rfl⟩)) ⟨?_, stk_up hs.2 (fun j hj => ?_)⟩ (by simp only [List.length_cons]; omega)
        · simp only [q_a_p_a]; rfl
        · simp only [q_a_p_a]
          rw [if_neg (by omega)]
      · subst h2
        rw [z_1_2 h0]
        rw [h3] at nx ⊢
        have ey : q_a N o 6 (t.length + 1) = y := hs.1
        have ex : q_a N o 6 t.length = x := hs.2.1
        have es : nI (t.length + 2) + -nI 1 = nI (t.length + 1) := pk_m1 _
        have es2 : nI (t.length + 1) - nI 1 = nI t.length := pk_sub (by omega)
        have hl : (y :: x :: t).length = t.length + 2 := rfl
        have hb : t.length + 1 < 64 := by
          simp only [List.length_cons] at hL
          omega
        simp (disch := omega) only [y_lit, y_lt_T, y_lt_F, y_le_T, y_le_F, y_eq_T, y_eq_F, y_in_T, y_cl, ↓reduceIte, y_bs, y_bvs, y_os, y_on, y_t, ne_eq, not_true_eq_false, not_false_eq_true, pk_mul, nI_add, fX2_holds_b156, fX2_holds_b121, hl, es, es2, ex, ey, sX2_joined N h0 h1 h9]
        refine nx _ (k.tr (kp_a ⟨rfl, rfl⟩)) ⟨?_, stk_up hs.2.2 (fun j hj => ?_)⟩ (by simp only [List.length_cons]; omega)
        · simp only [q_a_p_a]; rfl
        · simp only [q_a_p_a]
          rw [if_neg (by omega)]
theorem sX2_holds (hC : RC1 M o C) (ok : c_ok C) (hso : so ≠ o) (hg : ∀ w, w < 10 → q_a M so 0 w = g w) {c : Nat} (hc : c < c_n C) :
    qW (fX2_holds M o (nI c) so) (fun v N1 => v = c_I C g c ∧ kp (fun a j => a = o ∧ j = 6) M N1) := by
  have o1 := ok.2.2.2.2.2.2.1 c hc
  have h14 := ok.2.2.2.2.1
  have hz := ok.2.2.2.2.2.1
  have h01 := c_I01 ok g hc
  have ef : q_a M o 3 c = nI (c_f C c) := (hC.2.2.2.2.1 c hc).2.2.2.1
  obtain ⟨us, hu, hu1⟩ : ∃ us, t_n (c_p C) (c_t C c - c_f C c) (c_f C c) [] = some us ∧ us.length ≤ 1 := by
    rcases o1.2.2.2.2.2 with e | e
    · rw [e.1, Nat.sub_self]
      exact ⟨[], rfl, Nat.zero_le _⟩
    · exact ⟨_, e.2, Nat.le_refl _⟩
  have : qW (fX2_holds_b10 q_F M o (nI c) so (nI ([] : List Int32).length) (nI (c_f C c))) _ := sX2_holds_b10 (g := g) hC hso hg hc h14 hz o1.2.2.2.2.1 (c_t C c - c_f C c) (c_f C c) q_F M [] us [] (by omega) (q_Fn (by omega)) kp.rf trivial trivial hu hu1 (by decide)
  unfold fX2_holds
  rw [if_pos (q_inN (by omega) (by omega)), nI_cl (by omega), ef, nI0]
  refine this.to (fun v N1 g1 => ⟨g1.1.trans ?_, g1.2⟩)
  show (if c_I C g c = 0 then (0 : Int32) else 1) = c_I C g c
  rcases h01 with e | e
  · rw [e, if_pos rfl]
  · rw [e, if_neg (by decide)]
end HOLDS
