/-! what the words stand for -/
def g_w (B : BK) (h p d owed mine gone : Nat) (w : Nat) : Int32 := nI (match w with
  | 0 => b_age B h
  | 1 => b_rank B h
  | 2 => b_age B p
  | 3 => b_rank B p
  | 4 => if b_house B h = b_house B p then 1 else 0
  | 5 => b_owes B h / 2 ^ p % 2
  | 6 => d
  | 7 => owed
  | 8 => mine
  | 9 => gone
  | _ => 0)
theorem RB1.kept {S : Nat → Nat → Prop} {M M1 : QM} {o : Nat} {B : BK} (h : RB1 M o B) (k : kp S M M1) (ho : 20 ≤ o) (hS : ∀ x j, S x j → x < 20) : RB1 M1 o B := by
  have no : ∀ x j, 20 ≤ x → ¬ S x j := fun x j hx z => by have := hS x j z; omega
  refine ⟨(k.i (no _ _ ho)).trans h.1, (k.i (no _ _ ho)).trans h.2.1, fun i hi => ?_, fun q hq => (h.2.2.2 q hq).kept k (fun j => no _ _ (by rw [el_qN ho]; omega))⟩
  have g := h.2.2.1 i hi
  unfold RP1 at g ⊢
  rw [k.a (no _ _ ho), k.a (no _ _ ho), k.a (no _ _ ho), k.a (no _ _ ho), k.a (no _ _ ho)]
  exact g
theorem w7 {w : Nat} (h : w < 7) : w = 0 ∨ w = 1 ∨ w = 2 ∨ w = 3 ∨ w = 4 ∨ w = 5 ∨ w = 6 := by omega
theorem w10 {w : Nat} (h : w < 10) : w = 0 ∨ w = 1 ∨ w = 2 ∨ w = 3 ∨ w = 4 ∨ w = 5 ∨ w = 6 ∨ w = 7 ∨ w = 8 ∨ w = 9 := by omega
section WORDS
variable {nc : Nat} {M : QM} {B : BK} {so : Nat}
theorem sX6_setHour (M : QM) (so : Nat) (x y z : Int32) : qV (fX6_setHour M so x y z) (fun N => q_a N so 0 7 = x ∧ q_a N so 0 8 = y ∧ q_a N so 0 9 = z ∧ (∀ w, w < 7 → q_a N so 0 w = q_a M so 0 w) ∧ kp (fun a j => a = so ∧ j = 0) M N) := by
  unfold fX6_setHour
  simp (disch := omega) only [y_lit, y_lt_T, y_lt_F, y_le_T, y_le_F, y_eq_T, y_eq_F, y_in_T, y_cl, ↓reduceIte, y_bs, y_bvs, y_os, y_on, y_t, ne_eq, not_true_eq_false, not_false_eq_true, pk_mul, nI_add]
  refine qV_s ⟨?_, ?_, ?_, fun w hw => ?_, kp.tr (kp.tr (kp_a ⟨rfl, rfl⟩) (kp_a ⟨rfl, rfl⟩)) (kp_a ⟨rfl, rfl⟩)⟩
  · simp [q_a_p_a]
  · simp [q_a_p_a]
  · simp [q_a_p_a]
  · simp only [q_a_p_a, true_and]
    rw [if_neg (by omega), if_neg (by omega), if_neg (by omega)]
theorem sX6_turnTo (h : RB1 M 20 B) (hB : b_ok nc B) (hso : so < 20) {i p : Nat} (hi : i < b_n B) (hp : p < b_n B) (d : Nat) : qV (fX6_turnTo M so 20 (nI i) (nI p) (nI d)) (fun N => (∀ w, w < 7 → q_a N so 0 w = g_w B i p d 0 0 0 w) ∧ kp (fun a j => a = so ∧ j = 0) M N) := by
  have hn := hB.1
  have hS : ∀ x j, (x = so ∧ j = 0) → x < 20 := fun x j z => by omega
  have up : ∀ {N : QM} (k : kp (fun a j => a = so ∧ j = 0) M N) (i : Nat) (v : Int32), kp (fun a j => a = so ∧ j = 0) M (p_a N so 0 i v) := fun k i v => k.tr (kp_a ⟨rfl, rfl⟩)
  have rb : ∀ {N : QM}, kp (fun a j => a = so ∧ j = 0) M N → RB1 N 20 B := fun k => h.kept k (by decide) hS
  have fin : ∀ (N : QM) (v5 v4 : Nat), kp (fun a j => a = so ∧ j = 0) M N → (∀ w, w < 5 → q_a N so 0 w = g_w B i p d 0 0 0 w) → v5 = b_owes B i / 2 ^ p % 2 → qV (fX6_turnTo_b87 N so (nI d) (nI v5) (nI 5) so) (fun N => (∀ w, w < 7 → q_a N so 0 w = g_w B i p d 0 0 0 w) ∧ kp (fun a j => a = so ∧ j = 0) M N) := fun N v5 v4 k hw e5 => by
    unfold fX6_turnTo_b87
    simp (disch := omega) only [y_lit, y_lt_T, y_lt_F, y_le_T, y_le_F, y_eq_T, y_eq_F, y_in_T, y_cl, ↓reduceIte, y_bs, y_bvs, y_os, y_on, y_t, ne_eq, not_true_eq_false, not_false_eq_true, pk_mul, nI_add]
    refine qV_s ⟨fun w hw7 => ?_, up (up k _ _) _ _⟩
    simp only [q_a_p_a, true_and]
    by_cases e6 : w = 6
    · subst e6; rfl
    · rw [if_neg e6]
      by_cases e5' : w = 5
      · subst e5'
        rw [if_pos rfl, e5]
        rfl
      · rw [if_neg e5']
        exact hw w (by omega)
  have mid : ∀ (N : QM) (v4 : Nat), kp (fun a j => a = so ∧ j = 0) M N → (∀ w, w < 4 → q_a N so 0 w = g_w B i p d 0 0 0 w) → v4 = (if b_house B i = b_house B p then 1 else 0) → qV (fX6_turnTo_b67 N so 20 (nI i) (nI p) (nI d) (nI v4) (nI 4) so) (fun N => (∀ w, w < 7 → q_a N so 0 w = g_w B i p d 0 0 0 w) ∧ kp (fun a j => a = so ∧ j = 0) M N) := fun N v4 k hw e4 => by
    unfold fX6_turnTo_b67
    simp (disch := omega) only [y_lit, y_lt_T, y_lt_F, y_le_T, y_le_F, y_eq_T, y_eq_F, y_in_T, y_cl, ↓reduceIte, y_bs, y_bvs, y_os, y_on, y_t, ne_eq, not_true_eq_false, not_false_eq_true, pk_mul, nI_add]
    have k1 := up k 4 (nI v4)
    rw [sX1_isOwing (rb k1) hB hi hp, q_b_s]
    have hv : b_owes B i / 2 ^ p % 2 < 2 := Nat.mod_lt _ (by decide)
    have h4 : ∀ w, w < 5 → q_a (p_a N so 0 4 (nI v4)) so 0 w = g_w B i p d 0 0 0 w := fun w hw5 => by
      simp only [q_a_p_a, true_and]
      by_cases e : w = 4
      · subst e
        rw [if_pos rfl, e4]
        rfl
      · rw [if_neg e]
        exact hw w (by omega)
    have f0 := fin _ (b_owes B i / 2 ^ p % 2) v4 k1 h4 rfl
    generalize b_owes B i / 2 ^ p % 2 = v at hv f0 ⊢
    match v, hv with
    | 0, _ => exact f0
    | 1, _ => exact f0
  have k0 : kp (fun a j => a = so ∧ j = 0) M (p_a M so 0 0 (nI (b_age B i))) := up kp.rf _ _
  have k1 := up k0 1 (nI (b_rank B i))
  have k2 := up k1 2 (nI (b_age B p))
  have k3 := up k2 3 (nI (b_rank B p))
  have hh : b_house B i < 10 := (hB.2.2.1 i hi).2.2.1
  have hh2 : b_house B p < 10 := (hB.2.2.1 p hp).2.2.1
  have h3 : ∀ w, w < 4 → q_a (p_a (p_a (p_a (p_a M so 0 0 (nI (b_age B i))) so 0 1 (nI (b_rank B i))) so 0 2 (nI (b_age B p))) so 0 3 (nI (b_rank B p))) so 0 w = g_w B i p d 0 0 0 w := fun w hw => by
    have : w = 0 ∨ w = 1 ∨ w = 2 ∨ w = 3 := by omega
    rcases this with e | e | e | e <;> subst e <;> simp [q_a_p_a, g_w]
  unfold fX6_turnTo
  simp (disch := omega) only [y_lit, y_lt_T, y_lt_F, y_le_T, y_le_F, y_eq_T, y_eq_F, y_in_T, y_cl, ↓reduceIte, y_bs, y_bvs, y_os, y_on, y_t, ne_eq, not_true_eq_false, not_false_eq_true, pk_mul, nI_add, sX1_ageOf h hn hi, sX1_rankOf (rb k0) hn hi, sX1_ageOf (rb k1) hn hp, sX1_rankOf (rb k2) hn hp, sX1_houseOf (rb k3) hn hi, sX1_houseOf (rb k3) hn hp]
  by_cases e : b_house B i = b_house B p
  · rw [if_neg (by rw [e]; exact fun z => z rfl)]
    exact mid _ 1 k3 h3 (by rw [if_pos e])
  · rw [if_pos (fun z => e ((nI_eq (by omega) (by omega)).mp z))]
    exact mid _ 0 k3 h3 (by rw [if_neg e])
theorem sX12_words (h : RM2 M B) (hB : b_ok nc B) {i p : Nat} (hi : i < b_n B) (hp : p < b_n B) (d owed mine gone : Nat) : qV (fX12_words M (nI i) (nI p) (nI d) (nI owed) (nI mine) (nI gone)) (fun N => (∀ w, w < 10 → q_a N 1000 22 w = g_w B i p d owed mine gone w) ∧ kp (fun a j => a = 1000 ∧ j = 22) M N) := by
  have hn := hB.1
  have gi := h.2.2.1 i hi
  have gp := h.2.2.1 p hp
  have a0 : q_a M 1000 1 (4 * i) = nI (b_age B i) := gi.1
  have a1 : q_a M 1000 1 (4 * i + 1) = nI (b_rank B i) := gi.2.1
  have a2 : q_a M 1000 1 (4 * i + 2) = nI (b_house B i) := gi.2.2.1
  have b0 : q_a M 1000 1 (4 * p) = nI (b_age B p) := gp.1
  have b1 : q_a M 1000 1 (4 * p + 1) = nI (b_rank B p) := gp.2.1
  have b2 : q_a M 1000 1 (4 * p + 2) = nI (b_house B p) := gp.2.2.1
  have o1 : q_a M 1000 2 (12 * i + p) = nI (b_owes B i / 2 ^ p % 2) := gi.2.2.2.2 p hp
  have hh : b_house B i < 10 := (hB.2.2.1 i hi).2.2.1
  have hh2 : b_house B p < 10 := (hB.2.2.1 p hp).2.2.1
  have up : ∀ {N : QM} (k : kp (fun a j => a = 1000 ∧ j = 22) M N) (i : Nat) (v : Int32), kp (fun a j => a = 1000 ∧ j = 22) M (p_a N 1000 22 i v) := fun k i v => k.tr (kp_a ⟨rfl, rfl⟩)
  have fin : ∀ v4 : Nat, v4 = (if b_house B i = b_house B p then 1 else 0) → qV (fX12_words_b93 (p_a (p_a (p_a (p_a M 1000 22 0 (nI (b_age B i))) 1000 22 1 (nI (b_rank B i))) 1000 22 2 (nI (b_age B p))) 1000 22 3 (nI (b_rank B p))) (nI i) (nI p) (nI d) (nI owed) (nI mine) (nI gone) (nI v4) (nI 4)) (fun N => (∀ w, w < 10 → q_a N 1000 22 w = g_w B i p d owed mine gone w) ∧ kp (fun a j => a = 1000 ∧ j = 22) M N) := fun v4 e4 => by
    unfold fX12_words_b93
    simp (disch := omega) only [y_lit, y_lt_T, y_lt_F, y_le_T, y_le_F, y_eq_T, y_eq_F, y_in_T, y_cl, ↓reduceIte, y_bs, y_bvs, y_os, y_on, y_t, ne_eq, not_true_eq_false, not_false_eq_true, pk_mul, nI_add, q_a_p_a, and_true, true_and, and_false, false_and, and_self, if_true, if_false, Nat.reduceEqDiff, reduceCtorEq, or_false, false_or, or_true, true_or, o1]
    refine qV_s ⟨fun w hw => ?_, up (up (up (up (up (up (up (up (up (up kp.rf _ _) _ _) _ _) _ _) _ _) _ _) _ _) _ _) _ _) _ _⟩
    rcases w10 hw with e | e | e | e | e | e | e | e | e | e <;> subst e <;> simp [q_a_p_a, g_w, e4]
  unfold fX12_words
  simp (disch := omega) only [y_lit, y_lt_T, y_lt_F, y_le_T, y_le_F, y_eq_T, y_eq_F, y_in_T, y_cl, ↓reduceIte, y_bs, y_bvs, y_os, y_on, y_t, ne_eq, not_true_eq_false, not_false_eq_true, pk_mul, nI_add, q_a_p_a, and_true, true_and, and_false, false_and, and_self, if_true, if_false, Nat.reduceEqDiff, reduceCtorEq, or_false, false_or, or_true, true_or, a0, a1, a2, b0, b1, b2]
  by_cases e : b_house B i = b_house B p
  · rw [if_neg (by rw [e]; exact fun z => z rfl)]
    exact fin 1 (by rw [if_pos e])
  · rw [if_pos (fun z => e ((nI_eq (by omega) (by omega)).mp z))]
    exact fin 0 (by rw [if_neg e])
end WORDS
