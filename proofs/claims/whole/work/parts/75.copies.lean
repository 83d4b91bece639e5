/-! a quarrel goes on; quarrels and books are copied -/
def rA (Q : QR) (m : Nat) (s : ST) : QR := (Q.1, r_n Q + 1, fU Q.2.2.1 (r_n Q) m, fU Q.2.2.2 (r_n Q) s)
theorem sX4_add {M : QM} {o : Nat} {Q : QR} (h : RQ1 M o Q) (hn : r_n Q < 9) (m : Nat) (s : ST) : qV (fX4_add M o (nI m) (s_p s)) (fun M1 => RQ1 M1 o (rA Q m s) ∧ kp (fun x _ => x = o) M M1) := by
  have c1 : ¬ nI (r_n Q) < 0 := nI_pos (by omega)
  have c2 : ¬ (9 : Int32) ≤ nI (r_n Q) := nI_ge (b := 9) hn (by omega)
  have c3 : q_in (nI (r_n Q)) 9 := q_inN hn (by omega)
  have c4 : (nI (r_n Q)).toNatClampNeg = r_n Q := nI_cl (by omega)
  simp only [fX4_add, q_t, q_i_p_a, h.2.2.2.2.2.1, if_neg c1, if_neg c2, if_pos c3, c4, nI_1]
  refine ⟨_, rfl, ⟨?_, ?_, ?_, ?_, ?_, ?_, fun k hk => ?_⟩, ?_⟩
  · rw [q_i_p_i, if_neg (by omega)]; exact h.1
  · rw [q_i_p_i, if_neg (by omega)]; exact h.2.1
  · rw [q_i_p_i, if_neg (by omega)]; exact h.2.2.1
  · rw [q_i_p_i, if_neg (by omega)]; exact h.2.2.2.1
  · rw [q_i_p_i, if_neg (by omega)]; exact h.2.2.2.2.1
  · rw [q_i_p_i, if_pos ⟨rfl, rfl⟩]; rfl
  · simp only [q_a_p_i, q_a_p_a, true_and]
    by_cases e : k = r_n Q
    · subst e
      simp [r_m, r_s, rA, fU]
    · have hk : k < r_n Q := by
        have : k < r_n Q + 1 := hk
        omega
      have g := h.2.2.2.2.2.2 k hk
      simp [r_m, r_s, rA, fU, e] at g ⊢
      exact g
  · refine kp.tr (kp.tr (kp_a ?_) (kp_a ?_)) (kp_i ?_) <;> rfl
theorem RB1.upd {M M1 : QM} {o : Nat} {B : BK} (h : RB1 M o B) (ho : 20 ≤ o) (ho2 : o < 25) {q : Nat} {Q : QR} (g : kp (fun x _ => x = el o 5 q) M M1) (hQ : RQ1 M1 (el o 5 q) Q) : RB1 M1 o (bR B q Q) := by
  have ee := el_qN ho q
  have eo : ¬ o = el o 5 q := by omega
  refine ⟨(g.i eo).trans h.1, (g.i eo).trans h.2.1, fun i hi => ?_, fun k hk => ?_⟩
  · have gi := h.2.2.1 i hi
    unfold RP1 at gi ⊢
    rw [g.a eo, g.a eo, g.a eo, g.a eo, g.a eo]
    exact gi
  · by_cases e : k = q
    · subst e
      rw [show b_r (bR B k Q) k = Q from fU_s _ _ _]
      exact hQ
    · rw [show b_r (bR B q Q) k = b_r B k from fU_n _ _ e]
      refine (h.2.2.2 k hk).kept g (fun j z => ?_)
      have e1 := el_qN ho k
      have z : el o 5 k = el o 5 q := z
      omega
/-- two objects hold the same, as far as a quarrel's rows go -/
def cQ (M M1 : QM) (a b : Nat) : Prop := (∀ j, 2 ≤ j → j < 8 → q_i M1 a j = q_i M b j) ∧ ∀ k, k < 9 → q_a M1 a 0 k = q_a M b 0 k ∧ q_a M1 a 1 k = q_a M b 1 k
theorem sX4_copy_b50 {M : QM} {a b : Nat} (hab : a ≠ b) : ∀ (n i q : Nat) (M1 : QM), i + n = 9 → n < q → kp (fun x _ => x = a) M M1 → (∀ j, 2 ≤ j → j < 8 → q_i M1 a j = q_i M b j) → (∀ k, k < i → q_a M1 a 0 k = q_a M b 0 k ∧ q_a M1 a 1 k = q_a M b 1 k) →
    qV (fX4_copy_b50 q M1 a b (nI i)) (fun M2 => cQ M M2 a b ∧ kp (fun x _ => x = a) M M2) := by
  intro n
  induction n with
  | zero =>
    intro i q M1 hi hq g h1 h2
    obtain ⟨q, rfl⟩ : ∃ p, q = p + 1 := ⟨q - 1, by omega⟩
    have e : i = 9 := hi
    subst e
    rw [fX4_copy_b50, if_pos (by decide)]
    exact qV_s ⟨⟨h1, h2⟩, g⟩
  | succ n ih =>
    intro i q M1 hi hq g h1 h2
    obtain ⟨q, rfl⟩ : ∃ p, q = p + 1 := ⟨q - 1, by omega⟩
    have c2 : ¬ (9 : Int32) ≤ nI i := nI_ge (b := 9) (by omega) (by omega)
    have c3 : q_in (nI i) 9 := q_inN (by omega) (by omega)
    have c4 : (nI i).toNatClampNeg = i := nI_cl (by omega)
    have hba : ¬ b = a := fun z => hab z.symm
    simp only [fX4_copy_b50, q_t, if_neg c2, if_pos c3, c4, nI_1]
    refine ih (i + 1) q _ (by omega) (by omega) (g.tr (kp.tr (kp_a ?_) (kp_a ?_))) (fun j j2 j8 => ?_) (fun k hk => ?_)
    · rfl
    · rfl
    · exact h1 j j2 j8
    · simp only [q_a_p_a, hba, false_and, if_false]
      by_cases e : k = i
      · subst e
        simp
        exact ⟨g.a hba, g.a hba⟩
      · simp [e]
        exact h2 k (by omega)
theorem sX4_copy {M : QM} {a b : Nat} (hab : a ≠ b) : qV (fX4_copy M a b) (fun M1 => cQ M M1 a b ∧ kp (fun x _ => x = a) M M1) := by
  have hba : ¬ b = a := fun z => hab z.symm
  unfold fX4_copy
  rw [nI0]
  repeat (with_reducible refine qV_t ?_)
  refine sX4_copy_b50 hab 9 0 q_F _ rfl (q_Fn (by decide)) ?_ (fun j j2 j8 => ?_) (fun k hk => absurd hk (Nat.not_lt_zero k))
  · refine kp.tr (kp.tr (kp.tr (kp.tr (kp.tr (kp_i ?_) (kp_i ?_)) (kp_i ?_)) (kp_i ?_)) (kp_i ?_)) (kp_i ?_) <;> rfl
  · simp only [q_i_p_i, hba, false_and, if_false, true_and]
    have : j = 2 ∨ j = 3 ∨ j = 4 ∨ j = 5 ∨ j = 6 ∨ j = 7 := by omega
    rcases this with e | e | e | e | e | e <;> subst e <;> simp
theorem cQ.held {M M1 : QM} {a b : Nat} {Q : QR} (h : cQ M M1 a b) (hQ : RQ1 M b Q) (hn : r_n Q ≤ 9) : RQ1 M1 a Q := by
  unfold RQ1 at hQ ⊢
  rw [h.1 2 (by decide) (by decide), h.1 3 (by decide) (by decide), h.1 4 (by decide) (by decide), h.1 5 (by decide) (by decide), h.1 6 (by decide) (by decide), h.1 7 (by decide) (by decide)]
  exact ⟨hQ.1, hQ.2.1, hQ.2.2.1, hQ.2.2.2.1, hQ.2.2.2.2.1, hQ.2.2.2.2.2.1, fun k hk => by rw [(h.2 k (by omega)).1, (h.2 k (by omega)).2]; exact hQ.2.2.2.2.2.2 k hk⟩
/-! a book into another -/
def cP (M M1 : QM) (a b i : Nat) : Prop := q_a M1 a 0 i = q_a M b 0 i ∧ q_a M1 a 1 i = q_a M b 1 i ∧ q_a M1 a 2 i = q_a M b 2 i ∧ q_a M1 a 3 i = q_a M b 3 i ∧ q_a M1 a 4 i = q_a M b 4 i
/-- what belongs to the book a: itself and its quarrels -/
def oB (a x : Nat) : Prop := x = a ∨ ∃ q, q < 24 ∧ x = el a 5 q
theorem oB_no {a b : Nat} (ha : 20 ≤ a) (ha2 : a < 25) (hb : 20 ≤ b) (hb2 : b < 25) (hab : a ≠ b) : (¬ oB a b) ∧ ∀ q, q < 24 → ¬ oB a (el b 5 q) := by
  refine ⟨fun z => ?_, fun q hq z => ?_⟩
  · rcases z with z | ⟨k, hk, z⟩
    · exact hab z.symm
    · rw [el_qN ha] at z
      omega
  · rw [el_qN hb] at z
    rcases z with z | ⟨k, hk, z⟩
    · omega
    · rw [el_qN ha] at z
      omega
section COPY
variable {M : QM} {a b : Nat}
theorem sX1_copy_b92 (ha : 20 ≤ a) (ha2 : a < 25) (hb : 20 ≤ b) (hb2 : b < 25) (hab : a ≠ b) : ∀ (n i q : Nat) (M1 : QM), i + n = 24 → n < q → kp (fun x _ => oB a x) M M1 → q_i M1 a 6 = q_i M b 6 → q_i M1 a 7 = q_i M b 7 → (∀ k, k < 12 → cP M M1 a b k) → (∀ k, k < i → cQ M M1 (el a 5 k) (el b 5 k)) →
    qV (fX1_copy_b92 q M1 a b (nI i)) (fun M2 => q_i M2 a 6 = q_i M b 6 ∧ q_i M2 a 7 = q_i M b 7 ∧ (∀ k, k < 12 → cP M M2 a b k) ∧ (∀ k, k < 24 → cQ M M2 (el a 5 k) (el b 5 k)) ∧ kp (fun x _ => oB a x) M M2) := by
  intro n
  induction n with
  | zero =>
    intro i q M1 hi hq g h6 h7 h1 h2
    obtain ⟨q, rfl⟩ : ∃ p, q = p + 1 := ⟨q - 1, by omega⟩
    have e : i = 24 := hi
    subst e
    rw [fX1_copy_b92, if_pos (by decide)]
    exact qV_s ⟨h6, h7, h1, h2, g⟩
  | succ n ih =>
    intro i q M1 hi hq g h6 h7 h1 h2
    obtain ⟨q, rfl⟩ : ∃ p, q = p + 1 := ⟨q - 1, by omega⟩
    have c2 : ¬ (24 : Int32) ≤ nI i := nI_ge (b := 24) (by omega) (by omega)
    have c3 : q_in (nI i) 24 := q_inN (by omega) (by omega)
    have c4 : (nI i).toNatClampNeg = i := nI_cl (by omega)
    have ea := el_qN ha i
    have eb := el_qN hb i
    simp only [fX1_copy_b92, if_neg c2, if_pos c3, c4, nI_1]
    refine qV_kv (sX4_copy (show el a 5 i ≠ el b 5 i by omega)) (fun M2 h => ?_)
    have g2 : kp (fun x _ => oB a x) M M2 := g.tr (h.2.wd (fun x _ z => Or.inr ⟨i, by omega, z⟩))
    have na : ¬ a = el a 5 i := by omega
    refine ih (i + 1) q _ (by omega) (by omega) g2 ((h.2.i na).trans h6) ((h.2.i na).trans h7) (fun k hk => ?_) (fun k hk => ?_)
    · have := h1 k hk
      unfold cP at this ⊢
      rw [h.2.a na, h.2.a na, h.2.a na, h.2.a na, h.2.a na]
      exact this
    · have no := (oB_no ha ha2 hb hb2 hab).2
      by_cases e : k = i
      · subst e
        have nk := no k (by omega)
        exact ⟨fun j j2 j8 => (h.1.1 j j2 j8).trans (g.i nk), fun t ht => ⟨((h.1.2 t ht).1).trans (g.a nk), ((h.1.2 t ht).2).trans (g.a nk)⟩⟩
      · have hk : k < i := by omega
        have := h2 k hk
        have nk : ¬ el a 5 k = el a 5 i := by
          rw [el_qN ha, el_qN ha]
          omega
        exact ⟨fun j j2 j8 => (h.2.i nk).trans (this.1 j j2 j8), fun t ht => ⟨(h.2.a nk).trans (this.2 t ht).1, (h.2.a nk).trans (this.2 t ht).2⟩⟩
theorem sX1_copy_b18 (ha : 20 ≤ a) (ha2 : a < 25) (hb : 20 ≤ b) (hb2 : b < 25) (hab : a ≠ b) : ∀ (n i q : Nat) (M1 : QM), i + n = 12 → n < q → kp (fun x _ => oB a x) M M1 → q_i M1 a 6 = q_i M b 6 → q_i M1 a 7 = q_i M b 7 → (∀ k, k < i → cP M M1 a b k) →
    qV (fX1_copy_b18 q M1 a b (nI i)) (fun M2 => q_i M2 a 6 = q_i M b 6 ∧ q_i M2 a 7 = q_i M b 7 ∧ (∀ k, k < 12 → cP M M2 a b k) ∧ (∀ k, k < 24 → cQ M M2 (el a 5 k) (el b 5 k)) ∧ kp (fun x _ => oB a x) M M2) := by
  intro n
  induction n with
  | zero =>
    intro i q M1 hi hq g h6 h7 h1
    obtain ⟨q, rfl⟩ : ∃ p, q = p + 1 := ⟨q - 1, by omega⟩
    have e : i = 12 := hi
    subst e
    rw [fX1_copy_b18, if_pos (by decide), fX1_copy_b90, nI0]
    exact sX1_copy_b92 ha ha2 hb hb2 hab 24 0 q_F M1 rfl (q_Fn (by decide)) g h6 h7 h1 (fun k hk => absurd hk (Nat.not_lt_zero k))
  | succ n ih =>
    intro i q M1 hi hq g h6 h7 h1
    obtain ⟨q, rfl⟩ : ∃ p, q = p + 1 := ⟨q - 1, by omega⟩
    have c2 : ¬ (12 : Int32) ≤ nI i := nI_ge (b := 12) (by omega) (by omega)
    have c3 : q_in (nI i) 12 := q_inN (by omega) (by omega)
    have c4 : (nI i).toNatClampNeg = i := nI_cl (by omega)
    have hba : ¬ b = a := fun z => hab z.symm
    have nb := (oB_no ha ha2 hb hb2 hab).1
    simp only [fX1_copy_b18, q_t, if_neg c2, if_pos c3, c4, nI_1]
    refine ih (i + 1) q _ (by omega) (by omega) (g.tr (kp.tr (kp.tr (kp.tr (kp.tr (kp_a (Or.inl rfl)) (kp_a (Or.inl rfl))) (kp_a (Or.inl rfl))) (kp_a (Or.inl rfl))) (kp_a (Or.inl rfl)))) h6 h7 (fun k hk => ?_)
    unfold cP
    simp only [q_a_p_a, hba, false_and, if_false]
    by_cases e : k = i
    · subst e
      simp
      exact ⟨g.a nb, g.a nb, g.a nb, g.a nb, g.a nb⟩
    · simp [e]
      exact h1 k (by omega)
theorem sX1_copy (ha : 20 ≤ a) (ha2 : a < 25) (hb : 20 ≤ b) (hb2 : b < 25) (hab : a ≠ b) {B : BK} {nc : Nat} (h : RB1 M b B) (hB : b_ok nc B) : qV (fX1_copy M a b) (fun M1 => RB1 M1 a B ∧ kp (fun x _ => oB a x) M M1) := by
  have hba : ¬ b = a := fun z => hab z.symm
  unfold fX1_copy
  rw [nI0]
  repeat (with_reducible refine qV_t ?_)
  refine (sX1_copy_b18 ha ha2 hb hb2 hab 12 0 q_F _ rfl (q_Fn (by decide)) (kp.tr (kp_i (Or.inl rfl)) (kp_i (Or.inl rfl))) ?_ ?_ (fun k hk => absurd hk (Nat.not_lt_zero k))).to (fun M2 g => ?_)
  · simp [q_i_p_i]
  · simp [q_i_p_i, hba]
  · obtain ⟨g6, g7, gp, gq, g⟩ := g
    refine ⟨⟨g6.trans h.1, g7.trans h.2.1, fun i hi => ?_, fun q hq => (gq q (Nat.lt_of_lt_of_le hq hB.2.1)).held (h.2.2.2 q hq) (hB.2.2.2 q hq).2.2.2.2.2.2.2.1⟩, g⟩
    have gi := gp i (Nat.lt_of_lt_of_le hi hB.1)
    have := h.2.2.1 i hi
    unfold RP1 at this ⊢
    unfold cP at gi
    rw [gi.1, gi.2.1, gi.2.2.1, gi.2.2.2.1, gi.2.2.2.2]
    exact this
end COPY
