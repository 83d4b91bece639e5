/-! PARSING: a pure parser; a state is (place, parts, how many steps, the steps) -/
abbrev PZ : Type := Nat × Nat × Nat × (Nat → STP)
def z_p (s : PZ) : Nat := s.1
def z_k (s : PZ) : Nat := s.2.1
def z_z (s : PZ) : Nat := s.2.2.1
def z_S (s : PZ) : Nat → STP := s.2.2.2
def x_b (r : Except Nat PZ) (f : PZ → Except Nat PZ) : Except Nat PZ := match r with
  | .error e => .error e
  | .ok s => f s
def fl (k p : Nat) : Nat := 1 + 8 * p + k
/-- a step more -/
def p_em (x : STP) (s : PZ) : PZ := (z_p s, z_k s, z_z s + 1, u_f (z_S s) (z_z s) x)
/-- the next token -/
def p_nx (b : Nat → Nat) (n : Nat) (s : PZ) : PZ := (nx b n (z_p s), z_k s, z_z s, z_S s)
/-- a part more -/
def p_mk (s : PZ) : Except Nat PZ := if z_k s < 50 then .ok (z_p s, z_k s + 1, z_z s, z_S s) else .error (fl 3 (z_p s))
section PARSE
variable (b : Nat → Nat) (n : Nat)
def p_kd (s : PZ) : Nat := kd b n (z_p s)
def p_val (s : PZ) : Except Nat PZ :=
  if 18 ≤ p_kd b n s ∧ p_kd b n s < 28 then x_b (p_mk s) (fun s1 => .ok (p_em (1, p_kd b n s - 18) (p_nx b n s1)))
  else if p_kd b n s = 30 then (if de b n (z_p s) - z_p s ≤ 4 then x_b (p_mk s) (fun s1 => .ok (p_em (0, nv b n (z_p s)) (p_nx b n s1))) else .error (fl 1 (z_p s)))
  else .error (fl 0 (z_p s))
def p_sumL : Nat → PZ → Except Nat PZ
  | 0, s => .ok s
  | f + 1, s => if p_kd b n s = 299 then x_b (p_val b n (p_nx b n s)) (fun s1 => p_sumL f (p_em (2, 0) s1))
    else if p_kd b n s = 301 then x_b (p_val b n (p_nx b n s)) (fun s1 => p_sumL f (p_em (3, 0) s1)) else .ok s
def p_sum (s : PZ) : Except Nat PZ := x_b (p_val b n s) (p_sumL b n 400)
def p_op (k : Nat) : Nat := if k = 316 then 4 else if k = 572 then 5 else if k = 317 then 6 else if k = 574 then 7 else if k = 318 then 8 else 0
def p_cmp (s : PZ) : Except Nat PZ := x_b (p_sum b n s) (fun s1 =>
  if p_op (p_kd b n s1) = 0 then .error (fl 0 (z_p s1)) else x_b (p_mk s1) (fun s2 => x_b (p_sum b n (p_nx b n s2)) (fun s3 => .ok (p_em (p_op (p_kd b n s1), 0) s3))))
/-- facts joined by a word w that makes a step o -/
def p_jnL (w o : Nat) (F : PZ → Except Nat PZ) : Nat → PZ → Except Nat PZ
  | 0, s => .ok s
  | f + 1, s => if p_kd b n s = w then x_b (F (p_nx b n s)) (fun s1 => p_jnL w o F f (p_em (o, 0) s1)) else .ok s
def p_jn (w o : Nat) (F : PZ → Except Nat PZ) (s : PZ) : Except Nat PZ := x_b (F s) (p_jnL b n w o F 400)
def p_tst (F : PZ → Except Nat PZ) : PZ → Except Nat PZ := p_jn b n 15 11 (p_jn b n 16 10 F)
def p_fact : Nat → Nat → PZ → Except Nat PZ
  | 0, _, _ => .error 0
  | d + 1, x, s => if p_kd b n s = 17 then (if x < 10 then x_b (p_fact d (x + 1) (p_nx b n s)) (fun s1 => .ok (p_em (9, 0) s1)) else .error (fl 2 (z_p s)))
    else if p_kd b n s = 347 then (if x < 10 then x_b (p_tst b n (p_fact d (x + 1)) (p_nx b n s)) (fun s1 => if p_kd b n s1 = 349 then .ok (p_nx b n s1) else .error (fl 0 (z_p s1))) else .error (fl 2 (z_p s)))
    else p_cmp b n s
end PARSE
/-- what is done between two states: steps of these sorts were put behind, within bounds -/
def TY (n : Nat) (s s1 : PZ) (ts us : List Bool) : Prop := z_p s < z_p s1 ∧ z_p s1 ≤ n ∧ z_k s ≤ z_k s1 ∧ z_k s1 ≤ 50 ∧ z_z s ≤ z_z s1 ∧ 2 * z_z s1 + z_p s + 2 * z_k s ≤ 2 * z_z s + z_p s1 + 2 * z_k s1 ∧ (∀ j, j < z_z s → z_S s1 j = z_S s j) ∧ (∀ j, z_z s ≤ j → j < z_z s1 → (z_S s1 j).2 < 10000) ∧ t_n (z_S s1) (z_z s1 - z_z s) (z_z s) ts = some us
theorem t_n_e {S S2 : Nat → STP} : ∀ (k i : Nat) (ts : List Bool), (∀ j, i ≤ j → j < i + k → S2 j = S j) → t_n S2 k i ts = t_n S k i ts := by
  intro k
  induction k with
  | zero => intro i ts _; rfl
  | succ k ih =>
    intro i ts h
    unfold t_n
    rw [h i (Nat.le_refl _) (by omega)]
    cases t_1 (S i) ts with
    | none => rfl
    | some us => exact ih (i + 1) us (fun j a c => h j (by omega) (by omega))
theorem t_n_a {S : Nat → STP} : ∀ (k l i : Nat) (ts us : List Bool), t_n S k i ts = some us → t_n S (k + l) i ts = t_n S l (i + k) us := by
  intro k
  induction k with
  | zero =>
    intro l i ts us h
    cases h
    rw [Nat.zero_add, Nat.add_zero]
  | succ k ih =>
    intro l i ts us h
    unfold t_n at h
    rw [show k + 1 + l = (k + l) + 1 by omega, t_n]
    cases e : t_1 (S i) ts with
    | none => rw [e] at h; cases h
    | some vs =>
      rw [e] at h
      have h : t_n S k (i + 1) vs = some us := h
      show t_n S (k + l) (i + 1) vs = _
      rw [ih l (i + 1) vs us h, show i + 1 + k = i + (k + 1) by omega]
section TYPES
variable {n : Nat} {b : Nat → Nat} {s s1 s2 : PZ} {ts us vs : List Bool}
theorem TY.tr (h : TY n s s1 ts us) (g : TY n s1 s2 us vs) : TY n s s2 ts vs := by
  obtain ⟨h1, h2, h3, h4, h5, h6, h7, h8, h9⟩ := h
  obtain ⟨g1, g2, g3, g4, g5, g6, g7, g8, g9⟩ := g
  refine ⟨by omega, g2, by omega, g4, by omega, by omega, fun j hj => (g7 j (by omega)).trans (h7 j hj), fun j a c => ?_, ?_⟩
  · by_cases q : j < z_z s1
    · rw [g7 j q]
      exact h8 j a q
    · exact g8 j (by omega) c
  · rw [show z_z s2 - z_z s = (z_z s1 - z_z s) + (z_z s2 - z_z s1) by omega]
    rw [t_n_a (us := us) _ _ _ _ ((t_n_e _ _ _ (fun j a c => g7 j (by omega))).trans h9), show z_z s + (z_z s1 - z_z s) = z_z s1 by omega]
    exact g9
/-- a step more behind -/
theorem TY.em (h : TY n s s1 ts us) {x : STP} (hx : t_1 x us = some vs) (hx2 : x.2 < 10000) (hb : 2 * z_z s1 + 2 + z_p s + 2 * z_k s ≤ 2 * z_z s + z_p s1 + 2 * z_k s1) : TY n s (p_em x s1) ts vs := by
  obtain ⟨h1, h2, h3, h4, h5, h6, h7, h8, h9⟩ := h
  refine ⟨h1, h2, h3, h4, Nat.le_succ_of_le h5, ?_, fun j hj => ?_, fun j a c => ?_, ?_⟩
  · show 2 * (z_z s1 + 1) + z_p s + 2 * z_k s ≤ 2 * z_z s + z_p s1 + 2 * z_k s1
    omega
  · show u_f (z_S s1) (z_z s1) x j = z_S s j
    rw [u_f_n _ _ (by omega)]
    exact h7 j hj
  · show (u_f (z_S s1) (z_z s1) x j).2 < 10000
    have c : j < z_z s1 + 1 := c
    by_cases q : j = z_z s1
    · rw [q, u_f_e]
      exact hx2
    · rw [u_f_n _ _ q]
      exact h8 j a (by omega)
  · show t_n (u_f (z_S s1) (z_z s1) x) (z_z s1 + 1 - z_z s) (z_z s) ts = some vs
    rw [show z_z s1 + 1 - z_z s = (z_z s1 - z_z s) + 1 by omega]
    rw [t_n_a (us := us) _ _ _ _ ((t_n_e _ _ _ (fun j a c => u_f_n _ _ (by omega))).trans h9), show z_z s + (z_z s1 - z_z s) = z_z s1 by omega]
    show (match t_1 (u_f (z_S s1) (z_z s1) x (z_z s1)) us with
      | none => none
      | some ws => t_n (u_f (z_S s1) (z_z s1) x) 0 (z_z s1 + 1) ws) = some vs
    rw [u_f_e, hx]
    rfl
/-- a token first -/
theorem TY.nxt (h : TY n (p_nx b n s) s1 ts us) (hp : z_p s < n) : TY n s s1 ts us := by
  obtain ⟨h1, h2, h3, h4, h5, h6, h7, h8, h9⟩ := h
  have g := (nx_b (b := b) hp).1
  have h1 : nx b n (z_p s) < z_p s1 := h1
  have h6 : 2 * z_z s1 + nx b n (z_p s) + 2 * z_k s ≤ 2 * z_z s + z_p s1 + 2 * z_k s1 := h6
  exact ⟨by omega, h2, h3, h4, h5, by omega, h7, h8, h9⟩
theorem p_kd_on (h : p_kd b n s ≠ 31) : z_p s < n := kd_on h
theorem x_b_ok {r : Except Nat PZ} {f : PZ → Except Nat PZ} {s2 : PZ} (h : x_b r f = .ok s2) : ∃ s1, r = .ok s1 ∧ f s1 = .ok s2 := by
  cases r with
  | error e => cases h
  | ok s1 => exact ⟨s1, rfl, h⟩
theorem p_mk_ok (h : p_mk s = .ok s1) : z_k s < 50 ∧ s1 = (z_p s, z_k s + 1, z_z s, z_S s) := by
  unfold p_mk at h
  by_cases c : z_k s < 50
  · rw [if_pos c] at h
    cases h
    exact ⟨c, rfl⟩
  · rw [if_neg c] at h
    cases h
theorem p_val_ty (h : p_val b n s = .ok s1) (hts : ts.length ≤ z_k s) : TY n s s1 ts (false :: ts) ∧ z_k s1 = z_k s + 1 ∧ 2 * z_z s1 + z_p s + 2 * z_k s + 1 ≤ 2 * z_z s + z_p s1 + 2 * z_k s1 := by
  have one : ∀ (x : STP) (s2 : PZ), p_kd b n s ≠ 31 → p_mk s = .ok s2 → s1 = p_em x (p_nx b n s2) → t_1 x ts = some (false :: ts) ∨ ¬ ts.length < 64 → x.2 < 10000 → TY n s s1 ts (false :: ts) ∧ z_k s1 = z_k s + 1 ∧ 2 * z_z s1 + z_p s + 2 * z_k s + 1 ≤ 2 * z_z s + z_p s1 + 2 * z_k s1 := fun x s2 h31 hm e ht hx => by
    obtain ⟨k50, rfl⟩ := p_mk_ok hm
    subst e
    have g := nx_b (b := b) (p_kd_on h31)
    have ht : t_1 x ts = some (false :: ts) := by
      rcases ht with ht | ht
      · exact ht
      · exact absurd (show ts.length < 64 by omega) ht
    refine ⟨⟨g.1, g.2, Nat.le_succ _, k50, Nat.le_succ _, ?_, fun j hj => u_f_n _ _ (by have hj : j < z_z s := hj; show j ≠ z_z s; omega), fun j a c => ?_, ?_⟩, rfl, ?_⟩
    · show 2 * (z_z s + 1) + z_p s + 2 * z_k s ≤ 2 * z_z s + nx b n (z_p s) + 2 * (z_k s + 1)
      omega
    · have c : j < z_z s + 1 := c
      have e : j = z_z s := by omega
      subst e
      show (u_f (z_S s) (z_z s) x (z_z s)).2 < 10000
      rw [u_f_e]
      exact hx
    · show t_n (u_f (z_S s) (z_z s) x) (z_z s + 1 - z_z s) (z_z s) ts = some (false :: ts)
      rw [show z_z s + 1 - z_z s = 1 by omega]
      show (match t_1 (u_f (z_S s) (z_z s) x (z_z s)) ts with
        | none => none
        | some ws => t_n (u_f (z_S s) (z_z s) x) 0 (z_z s + 1) ws) = some (false :: ts)
      rw [u_f_e, ht]
      rfl
    · show 2 * (z_z s + 1) + z_p s + 2 * z_k s + 1 ≤ 2 * z_z s + nx b n (z_p s) + 2 * (z_k s + 1)
      omega
  unfold p_val at h
  by_cases c1 : 18 ≤ p_kd b n s ∧ p_kd b n s < 28
  · rw [if_pos c1] at h
    obtain ⟨s2, h1, h2⟩ := x_b_ok h
    refine one (1, p_kd b n s - 18) s2 (by omega) h1 (by cases h2; rfl) ?_ (by show p_kd b n s - 18 < 10000; omega)
    by_cases c : ts.length < 64
    · left
      unfold t_1
      rw [if_neg (show ¬ 1 = 0 by decide), if_pos rfl, if_pos ⟨by show p_kd b n s - 18 < 10; omega, c⟩]
    · exact Or.inr c
  · rw [if_neg c1] at h
    by_cases c2 : p_kd b n s = 30
    · rw [if_pos c2] at h
      by_cases c3 : de b n (z_p s) - z_p s ≤ 4
      · rw [if_pos c3] at h
        obtain ⟨s2, h1, h2⟩ := x_b_ok h
        have hv := nv_b (b := b) (n := n) (p := z_p s) (by have := p_kd_on (b := b) (n := n) (s := s) (by omega); omega) c3
        refine one (0, nv b n (z_p s)) s2 (by omega) h1 (by cases h2; rfl) ?_ hv
        by_cases c : ts.length < 64
        · left
          unfold t_1
          rw [if_pos rfl, if_pos ⟨hv, c⟩]
        · exact Or.inr c
      · rw [if_neg c3] at h
        cases h
    · rw [if_neg c2] at h
      cases h
theorem p_sumL_ty : ∀ (f : Nat) (s s1 s0 : PZ), p_sumL b n f s = .ok s1 → TY n s0 s ts (false :: ts) → ts.length < z_k s → 2 * z_z s + z_p s0 + 2 * z_k s0 + 1 ≤ 2 * z_z s0 + z_p s + 2 * z_k s → TY n s0 s1 ts (false :: ts) ∧ ts.length < z_k s1 ∧ 2 * z_z s1 + z_p s0 + 2 * z_k s0 + 1 ≤ 2 * z_z s0 + z_p s1 + 2 * z_k s1 := by
  intro f
  induction f with
  | zero =>
    intro s s1 s0 h hT hl hb
    cases h
    exact ⟨hT, hl, hb⟩
  | succ f ih =>
    intro s s1 s0 h hT hl hb
    unfold p_sumL at h
    have one : ∀ o, (o = 2 ∨ o = 3) → p_kd b n s ≠ 31 → x_b (p_val b n (p_nx b n s)) (fun s1 => p_sumL b n f (p_em (o, 0) s1)) = .ok s1 → TY n s0 s1 ts (false :: ts) ∧ ts.length < z_k s1 ∧ 2 * z_z s1 + z_p s0 + 2 * z_k s0 + 1 ≤ 2 * z_z s0 + z_p s1 + 2 * z_k s1 := fun o ho h31 h => by
      obtain ⟨s2, h1, h2⟩ := x_b_ok h
      have hp := p_kd_on h31
      obtain ⟨T2, e2, b2⟩ := p_val_ty (ts := false :: ts) h1 (by show ts.length + 1 ≤ z_k s; omega)
      have g := nx_b (b := b) hp
      have e2 : z_k s2 = z_k s + 1 := e2
      have b2 : 2 * z_z s2 + nx b n (z_p s) + 2 * z_k s + 1 ≤ 2 * z_z s + z_p s2 + 2 * z_k s2 := b2
      have T3 := hT.tr (T2.nxt hp)
      refine ih _ _ _ h2 (T3.em (vs := false :: ts) ?_ (Nat.succ_pos _) (by omega)) ?_ ?_
      · rcases ho with e | e <;> subst e <;> rfl
      · show ts.length < z_k s2
        omega
      · show 2 * (z_z s2 + 1) + z_p s0 + 2 * z_k s0 + 1 ≤ 2 * z_z s0 + z_p s2 + 2 * z_k s2
        omega
    by_cases c1 : p_kd b n s = 299
    · rw [if_pos c1] at h
      exact one 2 (Or.inl rfl) (by omega) h
    · rw [if_neg c1] at h
      by_cases c2 : p_kd b n s = 301
      · rw [if_pos c2] at h
        exact one 3 (Or.inr rfl) (by omega) h
      · rw [if_neg c2] at h
        cases h
        exact ⟨hT, hl, hb⟩
theorem p_sum_ty (h : p_sum b n s = .ok s1) (hts : ts.length ≤ z_k s) : TY n s s1 ts (false :: ts) ∧ ts.length < z_k s1 ∧ 2 * z_z s1 + z_p s + 2 * z_k s + 1 ≤ 2 * z_z s + z_p s1 + 2 * z_k s1 := by
  obtain ⟨s2, h1, h2⟩ := x_b_ok h
  obtain ⟨T, e, bb⟩ := p_val_ty h1 hts
  exact p_sumL_ty 400 s2 s1 s h2 T (by omega) bb
theorem p_op_b (k : Nat) : p_op k = 0 ∨ (4 ≤ p_op k ∧ p_op k < 9) := by
  unfold p_op
  repeat (split; · omega)
  omega
theorem p_cmp_ty (h : p_cmp b n s = .ok s1) (hts : ts.length ≤ z_k s) : TY n s s1 ts (true :: ts) ∧ ts.length < z_k s1 := by
  obtain ⟨s2, h1, h2⟩ := x_b_ok h
  obtain ⟨T, l2, b2⟩ := p_sum_ty h1 hts
  by_cases c : p_op (p_kd b n s2) = 0
  · rw [if_pos c] at h2
    cases h2
  rw [if_neg c] at h2
  obtain ⟨s3, h3, h4⟩ := x_b_ok h2
  obtain ⟨s4, h5, h6⟩ := x_b_ok h4
  obtain ⟨k50, rfl⟩ := p_mk_ok h3
  have h31 : p_kd b n s2 ≠ 31 := fun z => c (by rw [z]; rfl)
  have hp := p_kd_on h31
  obtain ⟨T2, l4, b4⟩ := p_sum_ty (ts := false :: ts) h5 (by show ts.length + 1 ≤ z_k s2 + 1; omega)
  have g := nx_b (b := b) hp
  obtain ⟨t1, t2, t3, t4, t5, t6, t7, t8, t9⟩ := T2
  have t1 : nx b n (z_p s2) < z_p s4 := t1
  have t3 : z_k s2 + 1 ≤ z_k s4 := t3
  have b4 : 2 * z_z s4 + nx b n (z_p s2) + 2 * (z_k s2 + 1) + 1 ≤ 2 * z_z s2 + z_p s4 + 2 * z_k s4 := b4
  have T3 : TY n s2 s4 (false :: ts) (false :: false :: ts) := ⟨by omega, t2, by omega, t4, t5, by omega, t7, t8, t9⟩
  have hb := p_op_b (p_kd b n s2)
  cases h6
  refine ⟨(T.tr T3).em (vs := true :: ts) ?_ (Nat.succ_pos _) (by omega), ?_⟩
  · unfold t_1
    rw [if_neg (by show ¬ p_op (p_kd b n s2) = 0; omega), if_neg (by show ¬ p_op (p_kd b n s2) = 1; omega), if_neg (by show ¬ p_op (p_kd b n s2) < 4; omega), if_pos (by show p_op (p_kd b n s2) < 9; omega)]
  · show ts.length < z_k s4
    have l4 : ts.length + 1 < z_k s4 := l4
    omega
/-- a fact's like: what it does -/
def FT (n : Nat) (F : PZ → Except Nat PZ) : Prop := ∀ (s s1 : PZ) (ts : List Bool), F s = .ok s1 → ts.length ≤ z_k s → TY n s s1 ts (true :: ts) ∧ ts.length < z_k s1
theorem p_jn_ty {w o : Nat} (hw : w = 15 ∧ o = 11 ∨ w = 16 ∧ o = 10) {F : PZ → Except Nat PZ} (hF : FT n F) : FT n (p_jn b n w o F) := by
  have loop : ∀ (f : Nat) (s s1 s0 : PZ) (ts : List Bool), p_jnL b n w o F f s = .ok s1 → TY n s0 s ts (true :: ts) → ts.length < z_k s → TY n s0 s1 ts (true :: ts) ∧ ts.length < z_k s1 := by
    intro f
    induction f with
    | zero =>
      intro s s1 s0 ts h hT hl
      cases h
      exact ⟨hT, hl⟩
    | succ f ih =>
      intro s s1 s0 ts h hT hl
      unfold p_jnL at h
      by_cases c : p_kd b n s = w
      · rw [if_pos c] at h
        obtain ⟨s2, h1, h2⟩ := x_b_ok h
        have hp := p_kd_on (b := b) (n := n) (s := s) (by omega)
        obtain ⟨T2, l2⟩ := hF _ _ (true :: ts) h1 (by show ts.length + 1 ≤ z_k s; omega)
        have w2 : 2 ≤ nx b n (z_p s) - z_p s := by
          rcases hw with ⟨e1, e2⟩ | ⟨e1, e2⟩
          · have := nx_len (b := b) (n := n) (p := z_p s) (w := 15) (by decide) (by rw [← e1]; exact c)
            have e3 : (WDS.getD 15 []).length = 2 := rfl
            omega
          · have := nx_len (b := b) (n := n) (p := z_p s) (w := 16) (by decide) (by rw [← e1]; exact c)
            have e3 : (WDS.getD 16 []).length = 3 := rfl
            omega
        obtain ⟨t1, t2, t3, t4, t5, t6, t7, t8, t9⟩ := T2
        have t1 : nx b n (z_p s) < z_p s2 := t1
        have t3 : z_k s ≤ z_k s2 := t3
        have t6 : 2 * z_z s2 + nx b n (z_p s) + 2 * z_k s ≤ 2 * z_z s + z_p s2 + 2 * z_k s2 := t6
        have T3 : TY n s s2 (true :: ts) (true :: true :: ts) := ⟨by omega, t2, by omega, t4, t5, by omega, t7, t8, t9⟩
        have T4 := hT.tr T3
        have l2 : ts.length + 1 < z_k s2 := l2
        have b0 : 2 * z_z s + z_p s0 + 2 * z_k s0 ≤ 2 * z_z s0 + z_p s + 2 * z_k s := hT.2.2.2.2.2.1
        refine ih _ _ _ _ h2 (T4.em (vs := true :: ts) ?_ (Nat.succ_pos _) (by omega)) (by show ts.length < z_k s2; omega)
        rcases hw with ⟨e1, e2⟩ | ⟨e1, e2⟩ <;> subst e2 <;> rfl
      · rw [if_neg c] at h
        cases h
        exact ⟨hT, hl⟩
  intro s s1 ts h hts
  obtain ⟨s2, h1, h2⟩ := x_b_ok h
  obtain ⟨T, l⟩ := hF s s2 ts h1 hts
  exact loop 400 s2 s1 s ts h2 T l
theorem p_fact_ty : ∀ (d x : Nat), FT n (p_fact b n d x) := by
  intro d
  induction d with
  | zero => intro x s s1 ts h _; cases h
  | succ d ih =>
    intro x s s1 ts h hts
    unfold p_fact at h
    by_cases c1 : p_kd b n s = 17
    · rw [if_pos c1] at h
      by_cases cx : x < 10
      · rw [if_pos cx] at h
        obtain ⟨s2, h1, h2⟩ := x_b_ok h
        have hp := p_kd_on (b := b) (n := n) (s := s) (by omega)
        obtain ⟨T2, l2⟩ := ih (x + 1) _ _ ts h1 hts
        have w2 : 3 ≤ nx b n (z_p s) - z_p s := by
          have := nx_len (b := b) (n := n) (p := z_p s) (w := 17) (by decide) c1
          have e3 : (WDS.getD 17 []).length = 3 := rfl
          omega
        obtain ⟨t1, t2, t3, t4, t5, t6, t7, t8, t9⟩ := T2
        have t1 : nx b n (z_p s) < z_p s2 := t1
        have t6 : 2 * z_z s2 + nx b n (z_p s) + 2 * z_k s ≤ 2 * z_z s + z_p s2 + 2 * z_k s2 := t6
        have T3 : TY n s s2 ts (true :: ts) := ⟨by omega, t2, t3, t4, t5, by omega, t7, t8, t9⟩
        cases h2
        exact ⟨T3.em (vs := true :: ts) rfl (Nat.succ_pos _) (by omega), l2⟩
      · rw [if_neg cx] at h
        cases h
    · rw [if_neg c1] at h
      by_cases c2 : p_kd b n s = 347
      · rw [if_pos c2] at h
        by_cases cx : x < 10
        · rw [if_pos cx] at h
          obtain ⟨s2, h1, h2⟩ := x_b_ok h
          have hp := p_kd_on (b := b) (n := n) (s := s) (by omega)
          obtain ⟨T2, l2⟩ := p_jn_ty (b := b) (Or.inl ⟨rfl, rfl⟩) (p_jn_ty (b := b) (Or.inr ⟨rfl, rfl⟩) (ih (x + 1))) _ _ ts h1 hts
          by_cases c3 : p_kd b n s2 = 349
          · rw [if_pos c3] at h2
            have hp2 := p_kd_on (b := b) (n := n) (s := s2) (by omega)
            obtain ⟨t1, t2, t3, t4, t5, t6, t7, t8, t9⟩ := T2.nxt hp
            have g := nx_b (b := b) hp2
            cases h2
            exact ⟨⟨by show z_p s < nx b n (z_p s2); omega, g.2, t3, t4, t5, by show 2 * z_z s2 + z_p s + 2 * z_k s ≤ 2 * z_z s + nx b n (z_p s2) + 2 * z_k s2; omega, t7, t8, t9⟩, l2⟩
          · rw [if_neg c3] at h2
            cases h2
        · rw [if_neg cx] at h
          cases h
      · rw [if_neg c2] at h
        exact p_cmp_ty h hts
end TYPES
