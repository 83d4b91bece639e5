/-! running by rows: conditions over numbers told as nI, decided by omega -/
theorem y_lit (n : Nat) : (OfNat.ofNat n : Int32) = nI n := by
  have h : ∀ x : Int32, x = nI n → x = nI n := fun _ h => h
  exact h _ rfl
theorem y_lt_T {a b : Nat} (h : a < b) (hb : b < 2147483648) : (nI a < nI b) = True := eq_true (nI_lt h hb)
theorem y_lt_F {a b : Nat} (h : b ≤ a) (ha : a < 2147483648) : (nI a < nI b) = False := eq_false (nI_nlt h ha)
theorem y_le_T {a b : Nat} (h : a ≤ b) (hb : b < 2147483648) : (nI a ≤ nI b) = True := eq_true (nI_le h hb)
theorem y_le_F {a b : Nat} (h : b < a) (ha : a < 2147483648) : (nI a ≤ nI b) = False := eq_false (nI_ge h ha)
theorem y_eq_T {a b : Nat} (h : a = b) : (nI a = nI b) = True := eq_true (by rw [h])
theorem y_eq_F {a b : Nat} (h : a ≠ b) (ha : a < 2147483648) (hb : b < 2147483648) : (nI a = nI b) = False := eq_false (fun z => h ((nI_eq ha hb).mp z))
theorem y_in_T {a N : Nat} (h : a < N) (hN : N < 2147483648) : q_in (nI a) N = True := eq_true (nI_in h hN)
theorem y_cl {n : Nat} (h : n < 2147483648) : (nI n).toNatClampNeg = n := nI_clamp h
theorem y_t {α β : Type} (a : α) (f : α → Option β) : q_t a f = f a := by
  have h : ∀ b, b = f a → b = f a := fun b h => h
  exact h _ rfl
theorem y_id {α : Type} {x y : α} (h : x = y) : x = y := by
  have g : x = y → x = y := fun h => h
  exact g h
theorem y_ii (M : QM) (o j : Nat) (v : Int32) (a b : Nat) : q_i (p_i M o j v) a b = if a = o ∧ b = j then v else q_i M a b := y_id rfl
theorem y_ia (M : QM) (o j : Nat) (i : Nat) (v : Int32) (a b : Nat) : q_i (p_a M o j i v) a b = q_i M a b := y_id rfl
theorem y_il (M : QM) (o j : Nat) (i : Nat) (v : Int64) (a b : Nat) : q_i (p_l M o j i v) a b = q_i M a b := y_id rfl
theorem y_ir (M : QM) (o j : Nat) (v : Nat) (a b : Nat) : q_i (p_r M o j v) a b = q_i M a b := y_id rfl
theorem y_ai (M : QM) (o j : Nat) (v : Int32) (a b k : Nat) : q_a (p_i M o j v) a b k = q_a M a b k := y_id rfl
theorem y_aa (M : QM) (o j : Nat) (i : Nat) (v : Int32) (a b k : Nat) : q_a (p_a M o j i v) a b k = if a = o ∧ b = j ∧ k = i then v else q_a M a b k := y_id rfl
theorem y_al (M : QM) (o j : Nat) (i : Nat) (v : Int64) (a b k : Nat) : q_a (p_l M o j i v) a b k = q_a M a b k := y_id rfl
theorem y_ar (M : QM) (o j : Nat) (v : Nat) (a b k : Nat) : q_a (p_r M o j v) a b k = q_a M a b k := y_id rfl
theorem y_li (M : QM) (o j : Nat) (v : Int32) (a b k : Nat) : q_l (p_i M o j v) a b k = q_l M a b k := y_id rfl
theorem y_la (M : QM) (o j : Nat) (i : Nat) (v : Int32) (a b k : Nat) : q_l (p_a M o j i v) a b k = q_l M a b k := y_id rfl
theorem y_ll (M : QM) (o j : Nat) (i : Nat) (v : Int64) (a b k : Nat) : q_l (p_l M o j i v) a b k = if a = o ∧ b = j ∧ k = i then v else q_l M a b k := y_id rfl
theorem y_lr (M : QM) (o j : Nat) (v : Nat) (a b k : Nat) : q_l (p_r M o j v) a b k = q_l M a b k := y_id rfl
theorem y_ri (M : QM) (o j : Nat) (v : Int32) (a b : Nat) : q_r (p_i M o j v) a b = q_r M a b := y_id rfl
theorem y_ra (M : QM) (o j : Nat) (i : Nat) (v : Int32) (a b : Nat) : q_r (p_a M o j i v) a b = q_r M a b := y_id rfl
theorem y_rl (M : QM) (o j : Nat) (i : Nat) (v : Int64) (a b : Nat) : q_r (p_l M o j i v) a b = q_r M a b := y_id rfl
theorem y_rr (M : QM) (o j : Nat) (v : Nat) (a b : Nat) : q_r (p_r M o j v) a b = if a = o ∧ b = j then v else q_r M a b := y_id rfl
theorem y_bs {α β : Type} (r : α) (M : QM) (f : α → QM → Option β) : q_b (some (r, M)) f = f r M := y_id rfl
theorem y_bvs {β : Type} (M : QM) (f : QM → Option β) : q_bv (some M) f = f M := y_id rfl
theorem y_os {β : Type} (a : Nat) (n : Option β) (f : Nat → Option β) : q_o (some a) n f = f a := y_id rfl
theorem y_on {β : Type} (n : Option β) (f : Nat → Option β) : q_o none n f = n := y_id rfl
section COUNT
variable {nc : Nat} {M M1 M2 : QM} {B : BK}
theorem sX12_count_b4 (h : RM2 M B) (hB : b_ok nc B) {x : Int32} : ∀ (n i q : Nat), i + n = b_q B → n < q → fX12_count_b4 q M x (nI (cOn B i)) (nI i) = fX12_count_b34 M x (nI (cOn B (b_q B))) := by
  have h24 := hB.2.1
  intro n
  induction n with
  | zero =>
    intro i q hi hq
    obtain ⟨q, rfl⟩ : ∃ p, q = p + 1 := ⟨q - 1, by omega⟩
    have e : i = b_q B := hi
    subst e
    simp (disch := omega) only [fX12_count_b4, h.2.1, y_lit, y_lt_T, y_lt_F, y_le_T, y_le_F, y_eq_T, y_eq_F, y_in_T, y_cl, ↓reduceIte, y_bs, y_bvs, y_os, y_on, y_t, ne_eq, not_true_eq_false, not_false_eq_true, pk_mul, nI_add]
  | succ n ih =>
    intro i q hi hq
    obtain ⟨q, rfl⟩ : ∃ p, q = p + 1 := ⟨q - 1, by omega⟩
    have e2 : cOn B (i + 1) = cOn B i + if s_e (r_now (b_r B i)) = 0 then 1 else 0 := rfl
    have nx := ih (i + 1) q (by omega) (by omega)
    rw [e2] at nx
    rw [fX12_count_b4, sX12_isOn h hB (by omega)]
    by_cases e : s_e (r_now (b_r B i)) = 0
    · simp (disch := omega) only [fX12_count_b26, h.2.1, e, y_lit, y_lt_T, y_lt_F, y_le_T, y_le_F, y_eq_T, y_eq_F, y_in_T, y_cl, ↓reduceIte, y_bs, y_bvs, y_os, y_on, y_t, ne_eq, not_true_eq_false, not_false_eq_true, pk_mul, nI_add] at nx ⊢
      exact nx
    · simp (disch := omega) only [fX12_count_b26, h.2.1, e, y_lit, y_lt_T, y_lt_F, y_le_T, y_le_F, y_eq_T, y_eq_F, y_in_T, y_cl, ↓reduceIte, y_bs, y_bvs, y_os, y_on, y_t, ne_eq, not_true_eq_false, not_false_eq_true, pk_mul, nI_add] at nx ⊢
      exact nx
theorem pair_count (h1 : RB1 M1 20 B) (h2 : RM2 M2 B) (hB : b_ok nc B) (n1 : q_i M1 0 10 = nI nc) (n2 : q_i M2 1000 5 = nI nc) {tn : Nat} (t1 : q_i M1 1 1 = nI tn) (t2 : q_i M2 1000 4 = nI tn) (x : Int32) : ∃ r, fX11_count M1 x = some (r, M1) ∧ fX12_count M2 x = some (r, M2) := by
  have h24 := hB.2.1
  have e2 : fX12_count M2 x = fX12_count_b34 M2 x (nI (cOn B (b_q B))) := by
    unfold fX12_count
    rw [nI0]
    exact sX12_count_b4 h2 hB (b_q B) 0 q_F (by omega) (q_Fn (by omega))
  rw [e2]
  unfold fX11_count fX12_count_b34
  rw [h1.1, h1.2.1, n1, t1, h2.1, h2.2.1, n2, t2, sX1_goingOn h1 hB, q_b_s]
  by_cases c0 : x = 0
  · rw [if_pos c0, if_pos c0]; exact ⟨_, rfl, rfl⟩
  rw [if_neg c0, if_neg c0]
  by_cases c1 : x = 1
  · rw [if_pos c1, if_pos c1]; exact ⟨_, rfl, rfl⟩
  rw [if_neg c1, if_neg c1]
  by_cases c2 : x = 2
  · rw [if_pos c2, if_pos c2]; exact ⟨_, rfl, rfl⟩
  rw [if_neg c2, if_neg c2]
  by_cases c3 : x = 3
  · rw [if_pos c3, if_pos c3]; exact ⟨_, rfl, rfl⟩
  rw [if_neg c3, if_neg c3]
  by_cases c4 : x = 4
  · rw [if_pos c4, if_pos c4]; exact ⟨_, rfl, rfl⟩
  · rw [if_neg c4, if_neg c4]; exact ⟨_, rfl, rfl⟩
end COUNT
