/-! the reference's reader: words passed, numbers, steps put, parts made -/
/-- fields of S may change, the steps of the texts before t not -/
def FQ (S : Nat → Nat → Prop) (t : Nat) (M N : QM) : Prop := kp S M N ∧ ∀ c, c < 400 * t → q_a N 1000 6 c = q_a M 1000 6 c
def SVv (a j : Nat) : Prop := a = 1000 ∧ (j = 6 ∨ j = 7 ∨ j = 14 ∨ j = 15 ∨ j = 16 ∨ j = 18)
def SU (a j : Nat) : Prop := a = 1000 ∧ (j = 14 ∨ j = 15 ∨ j = 16)
def SM (a j : Nat) : Prop := a = 1000 ∧ (j = 15 ∨ j = 18)
theorem FQ.tr {S : Nat → Nat → Prop} {t : Nat} {M N K : QM} (h : FQ S t M N) (g : FQ S t N K) : FQ S t M K := ⟨h.1.tr g.1, fun c hc => (g.2 c hc).trans (h.2 c hc)⟩
theorem FQ.rf {S : Nat → Nat → Prop} {t : Nat} {M : QM} : FQ S t M M := ⟨kp.rf, fun c hc => rfl⟩
theorem FQ.wd {S T : Nat → Nat → Prop} {t : Nat} {M N : QM} (h : FQ S t M N) (w : ∀ a j, S a j → T a j) : FQ T t M N := ⟨h.1.wd w, h.2⟩
theorem FQ.of {S T : Nat → Nat → Prop} {t : Nat} {M N : QM} (k : kp S M N) (w : ∀ a j, S a j → T a j) (h : ¬ S 1000 6) : FQ T t M N := ⟨k.wd w, fun c _ => k.a h⟩
theorem SN_SVv (a j : Nat) (z : SN a j) : SVv a j := ⟨z.1, by have := z.2; omega⟩
theorem SU_SVv (a j : Nat) (z : SU a j) : SVv a j := ⟨z.1, by have := z.2; omega⟩
theorem SM_SVv (a j : Nat) (z : SM a j) : SVv a j := ⟨z.1, by have := z.2; omega⟩
theorem SN_SU (a j : Nat) (z : SN a j) : SU a j := ⟨z.1, by have := z.2; omega⟩
theorem not_SN {j : Nat} (h : j ≠ 14) : ¬ SN 1000 j := fun z => h z.2
theorem not_SU6 : ¬ SU 1000 6 := fun z => by have := z.2; omega
theorem not_SM6 : ¬ SM 1000 6 := fun z => by have := z.2; omega
/-- as PR1, the reference's -/
def P2 (S : Nat → Nat → Prop) (b : Nat → Nat) (n t : Nat) (M : QM) (r : Except Nat PZ) (v : Int32) (N : QM) : Prop := FQ S t M N ∧ match r with
  | .ok s => v = nI 1 ∧ ∃ r, RD N b n t r s
  | .error e => v = nI 0 ∧ q_i N 1000 15 = nI e
theorem vl_snoc (b : Nat → Nat) : ∀ (k p a : Nat), vl b (k + 1) p a = 10 * vl b k p a + b (p + k) - 48 := by
  intro k
  induction k with
  | zero => intro p a; rfl
  | succ k ih =>
    intro p a
    show vl b (k + 1) (p + 1) (10 * a + b p - 48) = _
    rw [ih (p + 1) (10 * a + b p - 48), show p + 1 + k = p + (k + 1) by omega]
    rfl
section LEAVES
variable {M : QM} {b : Nat → Nat} {n t r : Nat} {s : PZ}
theorem P2.tr {S : Nat → Nat → Prop} {M1 N : QM} {x : Except Nat PZ} {v : Int32} (k : FQ S t M M1) (h : P2 S b n t M1 x v N) : P2 S b n t M x v N := ⟨k.tr h.1, h.2⟩
theorem P2.wd {S T : Nat → Nat → Prop} {N : QM} {x : Except Nat PZ} {v : Int32} (h : P2 S b n t M x v N) (w : ∀ a j, S a j → T a j) : P2 T b n t M x v N := ⟨h.1.wd w, h.2⟩
theorem sX12_fails (h : q_i M 1000 15 = nI 0) {k p : Nat} (hk : k < 8) (hp : p ≤ 400) : fX12_fails M (nI k) (nI p) = some (nI 0, p_i M 1000 15 (nI (fl k p))) := by
  unfold fX12_fails fl
  simp (disch := omega) only [y_lit, y_lt_T, y_lt_F, y_le_T, y_le_F, y_eq_T, y_eq_F, y_in_T, y_cl, ↓reduceIte, y_bs, y_bvs, y_os, y_on, y_t, ne_eq, not_true_eq_false, not_false_eq_true, pk_mul, nI_add, h]
theorem sX12_passWord_b0 (ok : tp_ok n b) : ∀ (d r f : Nat) (M : QM), r + d = n → d < f → TP2 M n b → q_i M 1000 14 = nI r → qV (fX12_passWord_b0 f M) (fun N => kp SN M N ∧ q_i N 1000 14 = nI (we b n r)) := by
  have hn := ok.1
  intro d
  induction d with
  | zero =>
    intro r f M h1 h2 T e
    obtain ⟨f, rfl⟩ : ∃ p, f = p + 1 := ⟨f - 1, by omega⟩
    rw [fX12_passWord_b0, e, sX12_isLetter T ok (by omega), q_b_s, if_neg (show ¬ (r < n ∧ isL (b r) = true) from fun z => by have := z.1; omega), if_pos (by decide)]
    exact qV_s ⟨kp.rf, by rw [e, show we b n r = r from rn_e (by omega)]⟩
  | succ d ih =>
    intro r f M h1 h2 T e
    obtain ⟨f, rfl⟩ : ∃ p, f = p + 1 := ⟨f - 1, by omega⟩
    rw [fX12_passWord_b0, e, sX12_isLetter T ok (by omega), q_b_s]
    cases c : isL (b r) with
    | false =>
      rw [if_neg (show ¬ (r < n ∧ false = true) from fun z => by cases z.2), if_pos (by decide)]
      exact qV_s ⟨kp.rf, by rw [e, show we b n r = r from rn_n c]⟩
    | true =>
      have k : kp SN M (p_i M 1000 14 (nI (r + 1))) := kp_i ⟨rfl, rfl⟩
      rw [if_pos (show r < n ∧ true = true from ⟨by omega, rfl⟩), if_neg (by decide), e, show nI r + (1 : Int32) = nI (r + 1) from nI_add r 1, q_t]
      obtain ⟨N, a1, a2, a3⟩ := ih (r + 1) f _ (by omega) (by omega) (T.keptN k (not_SN (by decide)) (not_SN (by decide))) (by simp only [y_ii, y_ia, y_il, y_ir, y_ai, y_aa, y_al, y_ar, y_li, y_la, y_ll, y_lr, y_ri, y_ra, y_rl, y_rr, and_true, true_and, and_false, false_and, and_self, if_true, if_false, Nat.reduceEqDiff, reduceCtorEq, or_false, false_or, or_true, true_or])
      refine ⟨N, a1, k.tr a2, ?_⟩
      rw [a3, show we b n r = we b n (r + 1) from rn_y (by omega) c]
theorem kd_let {p : Nat} (h : kd b n p < 28) : p < n ∧ isL (b p) = true := by
  have g := (kd_w (b := b) (n := n) (p := p) h).mp rfl
  exact ⟨g.1, g.2.1⟩
theorem sX12_passWord (R : RD M b n t (z_p s) s) (ok : tp_ok n b) (h : p_kd b n s < 28) : qV (fX12_passWord M) (fun N => kp SN M N ∧ ∃ r, RD N b n t r (p_nx b n s)) := by
  have hn := ok.1
  have hr := R.2.2.2.1
  obtain ⟨N, e, k, g⟩ := sX12_passWord_b0 ok (n - z_p s) (z_p s) q_F M (by omega) (q_Fn (by omega)) R.1 R.2.2.1
  have et : te b n (z_p s) = we b n (z_p s) := by
    unfold te
    rw [if_pos (kd_let h).2]
  exact ⟨N, e, k, we b n (z_p s), R.on k g (rn_le (P := isL) (b := b) hr).2 (by rw [← et]; rfl)⟩
theorem sX12_takesWord (R : RD M b n t r s) (ok : tp_ok n b) {w : Nat} (hw : w < 28) {x : Int64} (hx : x = lN (pkW (WDS.getD w []))) : ∃ N, fX12_takesWord M x = some (nI (if p_kd b n s = w then 1 else 0), N) ∧ (∃ r, RD N b n t r (if p_kd b n s = w then p_nx b n s else s)) ∧ kp SN M N := by
  obtain ⟨N, e, R2, k⟩ := sX12_isWord R ok hw hx
  unfold fX12_takesWord
  rw [e, q_b_s]
  by_cases c : p_kd b n s = w
  · obtain ⟨N2, e2, k2, R3⟩ := sX12_passWord R2 ok (by omega)
    rw [if_pos c, if_pos (by decide), e2, q_bv_s, if_pos c]
    exact ⟨N2, rfl, R3, k.tr k2⟩
  · rw [if_neg c, if_neg (by decide), if_neg c]
    exact ⟨N, rfl, ⟨_, R2⟩, k⟩
theorem sX12_number_b34 (ok : tp_ok n b) {p lo hi : Nat} (hlo : lo < 2 ^ 31) (hhi : hi < 2 ^ 31) : ∀ (d c f : Nat) (M : QM), p + c + d = n → d < f → TP2 M n b → q_i M 1000 14 = nI (p + c) → q_i M 1000 15 = nI 0 → (∀ i, i < c → isD (b (p + i)) = true) → de b n (p + c) = de b n p → qW (fX12_number_b34 f M (nI lo) (nI hi) (nI p) (nI (vl b (min c 4) p 0))) (fun v N => kp SU M N ∧ if de b n p - p ≤ 4 ∧ lo ≤ nv b n p ∧ nv b n p ≤ hi then v = nI 1 ∧ q_i N 1000 14 = nI (de b n p) ∧ q_i N 1000 15 = nI 0 ∧ q_i N 1000 16 = nI (nv b n p) else v = nI 0 ∧ q_i N 1000 15 = nI (fl 1 p)) := by
  have hn := ok.1
  have vb : ∀ c, c ≤ 4 → (∀ i, i < c → isD (b (p + i)) = true) → vl b c p 0 < 10000 := fun c hc h => by
    have h1 := vl_b (b := b) c p 0 (fun i x y => by have := h (i - p) (by omega); rw [show p + (i - p) = i by omega] at this; exact this)
    have h2 : 10 ^ c ≤ 10 ^ 4 := Nat.pow_le_pow_right (by decide) hc
    omega
  have fin : ∀ (c : Nat) (M : QM), p + c ≤ n → q_i M 1000 14 = nI (p + c) → q_i M 1000 15 = nI 0 → (∀ i, i < c → isD (b (p + i)) = true) → de b n p = p + c → qW (fX12_number_b88 M (nI lo) (nI hi) (nI p) (nI (vl b (min c 4) p 0))) (fun v N => kp SU M N ∧ if de b n p - p ≤ 4 ∧ lo ≤ nv b n p ∧ nv b n p ≤ hi then v = nI 1 ∧ q_i N 1000 14 = nI (de b n p) ∧ q_i N 1000 15 = nI 0 ∧ q_i N 1000 16 = nI (nv b n p) else v = nI 0 ∧ q_i N 1000 15 = nI (fl 1 p)) := fun c M hc e14 e15 hd e => by
    have k : kp SU M (p_i M 1000 16 (nI (vl b (min c 4) p 0))) := kp_i ⟨rfl, by decide⟩
    have f14 : q_i (p_i M 1000 16 (nI (vl b (min c 4) p 0))) 1000 14 = nI (p + c) := by
      simp only [y_ii, y_ia, y_il, y_ir, y_ai, y_aa, y_al, y_ar, y_li, y_la, y_ll, y_lr, y_ri, y_ra, y_rl, y_rr, and_true, true_and, and_false, false_and, and_self, if_true, if_false, Nat.reduceEqDiff, reduceCtorEq, or_false, false_or, or_true, true_or]
      exact e14
    have f15 : q_i (p_i M 1000 16 (nI (vl b (min c 4) p 0))) 1000 15 = nI 0 := by
      simp only [y_ii, y_ia, y_il, y_ir, y_ai, y_aa, y_al, y_ar, y_li, y_la, y_ll, y_lr, y_ri, y_ra, y_rl, y_rr, and_true, true_and, and_false, false_and, and_self, if_true, if_false, Nat.reduceEqDiff, reduceCtorEq, or_false, false_or, or_true, true_or]
      exact e15
    have f16 : q_i (p_i M 1000 16 (nI (vl b (min c 4) p 0))) 1000 16 = nI (vl b (min c 4) p 0) := by
      simp only [y_ii, y_ia, y_il, y_ir, y_ai, y_aa, y_al, y_ar, y_li, y_la, y_ll, y_lr, y_ri, y_ra, y_rl, y_rr, and_true, true_and, and_false, false_and, and_self, if_true, if_false, Nat.reduceEqDiff, reduceCtorEq, or_false, false_or, or_true, true_or]
    unfold fX12_number_b88
    rw [q_t]
    generalize p_i M 1000 16 (nI (vl b (min c 4) p 0)) = N at *
    have bad : ¬ (de b n p - p ≤ 4 ∧ lo ≤ nv b n p ∧ nv b n p ≤ hi) → qW (fX12_number_b117 N (nI p)) (fun v N => kp SU M N ∧ if de b n p - p ≤ 4 ∧ lo ≤ nv b n p ∧ nv b n p ≤ hi then v = nI 1 ∧ q_i N 1000 14 = nI (de b n p) ∧ q_i N 1000 15 = nI 0 ∧ q_i N 1000 16 = nI (nv b n p) else v = nI 0 ∧ q_i N 1000 15 = nI (fl 1 p)) := fun q => by
      unfold fX12_number_b117
      rw [show fX12_fails N (1 : Int32) (nI p) = _ from sX12_fails f15 (k := 1) (by decide) (by omega), q_b_s, if_pos (by decide)]
      refine qW_s ⟨k.tr (kp_i ⟨rfl, by decide⟩), ?_⟩
      rw [if_neg q]
      refine ⟨rfl, ?_⟩
      simp only [y_ii, y_ia, y_il, y_ir, y_ai, y_aa, y_al, y_ar, y_li, y_la, y_ll, y_lr, y_ri, y_ra, y_rl, y_rr, and_true, true_and, and_false, false_and, and_self, if_true, if_false, Nat.reduceEqDiff, reduceCtorEq, or_false, false_or, or_true, true_or]
    rw [f14, show nI (p + c) - nI p = nI (p + c - p) from pk_sub (by omega), show p + c - p = c by omega]
    by_cases c4 : 4 < c
    · rw [if_pos (show (4 : Int32) < nI c from nI_lt (a := 4) c4 (by omega))]
      exact bad (fun z => by have := z.1; omega)
    · have hv : nv b n p = vl b c p 0 := by
        unfold nv
        rw [e, show p + c - p = c by omega]
      have hvb := vb c (by omega) hd
      rw [show min c 4 = c by omega] at *
      rw [if_neg (show ¬ (4 : Int32) < nI c from (show ¬ nI 4 < nI c from nI_nlt (by omega) (by omega))), w_i64 hlo, w_i64 hhi, sX12_in _ _ _ _ hlo hhi, q_b_s]
      by_cases g : lo ≤ nv b n p ∧ nv b n p ≤ hi
      · rw [if_pos (show nI lo ≤ nI (vl b c p 0) ∧ nI (vl b c p 0) ≤ nI hi from ⟨nI_le (by omega) (by omega), nI_le (by omega) hhi⟩), if_pos (by decide)]
        refine qW_s ⟨k, ?_⟩
        rw [if_pos ⟨by omega, g⟩]
        exact ⟨rfl, by rw [f14, e], f15, by rw [f16, hv]⟩
      · rw [if_neg (show ¬ (nI lo ≤ nI (vl b c p 0) ∧ nI (vl b c p 0) ≤ nI hi) from fun z => g ⟨Nat.le_of_not_lt (fun q => nI_ge q (by omega) (by rw [hv]; exact z.1)), Nat.le_of_not_lt (fun q => nI_ge q (by omega) (by rw [hv]; exact z.2))⟩), if_neg (by decide)]
        exact bad (fun z => g z.2)
  intro d
  induction d with
  | zero =>
    intro c f M h1 h2 T e14 e15 hd e
    obtain ⟨f, rfl⟩ : ∃ p, f = p + 1 := ⟨f - 1, by omega⟩
    rw [fX12_number_b34, e14, sX12_isDigit T ok (by omega), q_b_s, if_neg (show ¬ (p + c < n ∧ isD (b (p + c)) = true) from fun z => by have := z.1; omega), if_pos (by decide)]
    exact fin c M (by omega) e14 e15 hd (by rw [← e]; exact rn_e (by omega))
  | succ d ih =>
    intro c f M h1 h2 T e14 e15 hd e
    obtain ⟨f, rfl⟩ : ∃ p, f = p + 1 := ⟨f - 1, by omega⟩
    rw [fX12_number_b34, e14, sX12_isDigit T ok (by omega), q_b_s]
    cases cd : isD (b (p + c)) with
    | false =>
      rw [if_neg (show ¬ (p + c < n ∧ false = true) from fun z => by cases z.2), if_pos (by decide)]
      exact fin c M (by omega) e14 e15 hd (by rw [← e]; exact rn_n cd)
    | true =>
      have k : kp SU M (p_i M 1000 14 (nI (p + c + 1))) := kp_i ⟨rfl, by decide⟩
      have hb := isD_I.mp cd
      rw [if_pos (show p + c < n ∧ true = true from ⟨by omega, rfl⟩), if_neg (by decide), e14, show nI (p + c) - nI p = nI (p + c - p) from pk_sub (by omega), show p + c - p = c by omega]
      have hd2 : ∀ i, i < c + 1 → isD (b (p + i)) = true := fun i hi => by
        by_cases q : i = c
        · rw [q]
          exact cd
        · exact hd i (by omega)
      obtain ⟨v, N, g1, g2, g3⟩ := ih (c + 1) f (p_i M 1000 14 (nI (p + c + 1))) (by omega) (by omega) (T.keptN k (fun z => by have := z.2; omega) (fun z => by have := z.2; omega)) (by simp only [y_ii, y_ia, y_il, y_ir, y_ai, y_aa, y_al, y_ar, y_li, y_la, y_ll, y_lr, y_ri, y_ra, y_rl, y_rr, and_true, true_and, and_false, false_and, and_self, if_true, if_false, Nat.reduceEqDiff, reduceCtorEq, or_false, false_or, or_true, true_or]; rfl) (by simp only [y_ii, y_ia, y_il, y_ir, y_ai, y_aa, y_al, y_ar, y_li, y_la, y_ll, y_lr, y_ri, y_ra, y_rl, y_rr, and_true, true_and, and_false, false_and, and_self, if_true, if_false, Nat.reduceEqDiff, reduceCtorEq, or_false, false_or, or_true, true_or]; exact e15) hd2 (by rw [← e]; exact (rn_y (P := isD) (by omega) cd).symm)
      have g1 : fX12_number_b75 (fun M x1 x2 x3 x4 => fX12_number_b34 f M x1 x2 x3 x4) M (nI lo) (nI hi) (nI p) (nI (vl b (min (c + 1) 4) p 0)) = some (v, N) := by
        unfold fX12_number_b75
        rw [e14, show nI (p + c) + (1 : Int32) = nI (p + c + 1) from nI_add _ 1, q_t]
        exact g1
      by_cases c4 : 4 ≤ c
      · rw [if_pos (show (4 : Int32) ≤ nI c from nI_le (a := 4) c4 (by omega))]
        refine ⟨v, N, ?_, k.tr g2, g3⟩
        rw [show min (c + 1) 4 = min c 4 by omega] at g1
        exact g1
      · have e3 := T.2 (p + c) (by omega)
        rw [sg_p (by omega)] at e3
        have ev : vl b (min (c + 1) 4) p 0 = 10 * vl b (min c 4) p 0 + b (p + c) - 48 := by
          rw [show min (c + 1) 4 = c + 1 by omega, show min c 4 = c by omega]
          exact vl_snoc b c p 0
        have hvb := vb (min c 4) (by omega) (fun i hi => hd i (by omega))
        rw [if_neg (show ¬ (4 : Int32) ≤ nI c from (show ¬ nI 4 ≤ nI c from nI_ge (by omega) (by omega))), if_pos (q_inN (show p + c < 400 by omega) (by decide)), nI_cl (by omega), e3]
        refine ⟨v, N, ?_, k.tr g2, g3⟩
        rw [ev] at g1
        rw [show ((10 : Int32) * nI (vl b (min c 4) p 0) + nI (b (p + c)) - (48 : Int32)) = nI (10 * vl b (min c 4) p 0 + b (p + c) - 48) from by
          show nI 10 * nI (vl b (min c 4) p 0) + nI (b (p + c)) - nI 48 = _
          rw [pk_mul, nI_add, pk_sub (by omega)], q_t]
        exact g1
theorem te_30 {p : Nat} (h : kd b n p = 30) : te b n p = de b n p := by
  obtain ⟨h1, h2, h3⟩ := kd_30.mp h
  unfold te
  rw [if_neg (by rw [h2]; decide), if_pos h3]
theorem isD_L {x : Nat} (h : isD x = true) : isL x = false := by
  have := isD_I.mp h
  cases c : isL x with
  | false => rfl
  | true =>
    have := isL_I.mp c
    omega
theorem sX12_number (R : RD M b n t r s) (ok : tp_ok n b) {lo hi : Nat} (hlo : lo < 2 ^ 31) (hhi : hi < 2 ^ 31) : qW (fX12_number M (nI lo) (nI hi)) (fun v N => P2 SU b n t M (p_num b n lo hi s) v N ∧ (v ≠ nI 0 → q_i N 1000 16 = nI (nv b n (z_p s)))) := by
  have hn := ok.1
  obtain ⟨N, e, R2, k⟩ := sX12_see R ok
  have hr := R2.2.2.2.1
  have e14 := R2.2.2.1
  have k1 := k.wd SN_SU
  unfold fX12_number p_num
  rw [e, q_b_s, e14, sX12_isDigit R2.1 ok hr, q_b_s]
  by_cases c : z_p s < n ∧ isD (b (z_p s)) = true
  · have c30 : p_kd b n s = 30 := kd_30.mpr ⟨c.1, isD_L c.2, c.2⟩
    rw [if_pos c, if_pos (by decide), if_pos c30]
    obtain ⟨v, N2, g1, g2, g3⟩ := sX12_number_b34 ok (p := z_p s) hlo hhi (n - z_p s) 0 q_F N (by omega) (q_Fn (by omega)) R2.1 e14 R2.2.2.2.2.2.1 (fun i hi => by omega) rfl
    refine ⟨v, N2, by rw [e14]; exact g1, ?_⟩
    have kk := k1.tr g2
    by_cases q : de b n (z_p s) - z_p s ≤ 4 ∧ lo ≤ nv b n (z_p s) ∧ nv b n (z_p s) ≤ hi
    · rw [if_pos q] at g3 ⊢
      obtain ⟨rfl, a1, a2, a3⟩ := g3
      obtain ⟨r1, r2, r3, r4, r5, r6, r7, r8, r9⟩ := R
      have nS : ∀ {j : Nat}, j ≠ 14 → j ≠ 15 → j ≠ 16 → ¬ SU 1000 j := fun x y z w => by have := w.2; omega
      refine ⟨⟨FQ.of kk (fun a j z => z) not_SU6, rfl, de b n (z_p s), r1.keptN kk (nS (by decide) (by decide) (by decide)) (nS (by decide) (by decide) (by decide)), (kk.i (nS (by decide) (by decide) (by decide))).trans r2, a1, (rn_le (P := isD) (b := b) hr).2, ?_, a2, (kk.i (nS (by decide) (by decide) (by decide))).trans r7, (kk.a (nS (by decide) (by decide) (by decide))).trans r8, fun j hj => (kk.a (nS (by decide) (by decide) (by decide))).trans (r9 j hj)⟩, fun _ => a3⟩
      rw [← te_30 c30]
      rfl
    · rw [if_neg q] at g3 ⊢
      obtain ⟨rfl, a1⟩ := g3
      exact ⟨⟨FQ.of kk (fun a j z => z) not_SU6, rfl, a1⟩, fun z => absurd rfl z⟩
  · have c30 : ¬ p_kd b n s = 30 := fun z => c ⟨(kd_30.mp z).1, (kd_30.mp z).2.2⟩
    rw [if_neg c, if_neg (by decide), if_neg c30, e14, show fX12_fails N (0 : Int32) (nI (z_p s)) = _ from sX12_fails R2.2.2.2.2.2.1 (k := 0) (by decide) (by omega), q_b_s, if_pos (by decide)]
    refine qW_s ⟨⟨FQ.of (k1.tr (kp_i ⟨rfl, by decide⟩)) (fun a j z => z) not_SU6, rfl, ?_⟩, fun z => absurd rfl z⟩
    simp only [y_ii, y_ia, y_il, y_ir, y_ai, y_aa, y_al, y_ar, y_li, y_la, y_ll, y_lr, y_ri, y_ra, y_rl, y_rr, and_true, true_and, and_false, false_and, and_self, if_true, if_false, Nat.reduceEqDiff, reduceCtorEq, or_false, false_or, or_true, true_or]
theorem sX12_wordHere (R : RD M b n t (z_p s) s) (ok : tp_ok n b) : fX12_wordHere M = some (if 18 ≤ p_kd b n s ∧ p_kd b n s < 28 then nI (p_kd b n s - 18) else -nI 1, M) := by
  unfold fX12_wordHere
  rw [sX12_isWord2 R ok (w := 18) (by decide) (show (6383461 : Int64) = lN (pkW (WDS.getD 18 [])) by decide +kernel), q_b_s]
  by_cases c18 : p_kd b n s = 18
  · rw [if_pos c18, if_neg (by decide), c18]
    rfl
  rw [if_neg c18, if_pos (by decide)]
  rw [sX12_isWord2 R ok (w := 19) (by decide) (show (1918987883 : Int64) = lN (pkW (WDS.getD 19 [])) by decide +kernel), q_b_s]
  by_cases c19 : p_kd b n s = 19
  · rw [if_pos c19, if_neg (by decide), c19]
    rfl
  rw [if_neg c19, if_pos (by decide)]
  rw [sX12_isWord2 R ok (w := 20) (by decide) (show (114802116618085 : Int64) = lN (pkW (WDS.getD 20 [])) by decide +kernel), q_b_s]
  by_cases c20 : p_kd b n s = 20
  · rw [if_pos c20, if_neg (by decide), c20]
    rfl
  rw [if_neg c20, if_pos (by decide)]
  rw [sX12_isWord2 R ok (w := 21) (by decide) (show (29389342139051627 : Int64) = lN (pkW (WDS.getD 21 [])) by decide +kernel), q_b_s]
  by_cases c21 : p_kd b n s = 21
  · rw [if_pos c21, if_neg (by decide), c21]
    rfl
  rw [if_neg c21, if_pos (by decide)]
  rw [sX12_isWord2 R ok (w := 22) (by decide) (show (7039342 : Int64) = lN (pkW (WDS.getD 22 [])) by decide +kernel), q_b_s]
  by_cases c22 : p_kd b n s = 22
  · rw [if_pos c22, if_neg (by decide), c22]
    rfl
  rw [if_neg c22, if_pos (by decide)]
  rw [sX12_isWord2 R ok (w := 23) (by decide) (show (1870095731 : Int64) = lN (pkW (WDS.getD 23 [])) by decide +kernel), q_b_s]
  by_cases c23 : p_kd b n s = 23
  · rw [if_pos c23, if_neg (by decide), c23]
    rfl
  rw [if_neg c23, if_pos (by decide)]
  rw [sX12_isWord2 R ok (w := 24) (by decide) (show (119165552256371 : Int64) = lN (pkW (WDS.getD 24 [])) by decide +kernel), q_b_s]
  by_cases c24 : p_kd b n s = 24
  · rw [if_pos c24, if_neg (by decide), c24]
    rfl
  rw [if_neg c24, if_pos (by decide)]
  rw [sX12_isWord2 R ok (w := 25) (by decide) (show (1870095716 : Int64) = lN (pkW (WDS.getD 25 [])) by decide +kernel), q_b_s]
  by_cases c25 : p_kd b n s = 25
  · rw [if_pos c25, if_neg (by decide), c25]
    rfl
  rw [if_neg c25, if_pos (by decide)]
  rw [sX12_isWord2 R ok (w := 26) (by decide) (show (1835626085 : Int64) = lN (pkW (WDS.getD 26 [])) by decide +kernel), q_b_s]
  by_cases c26 : p_kd b n s = 26
  · rw [if_pos c26, if_neg (by decide), c26]
    rfl
  rw [if_neg c26, if_pos (by decide)]
  rw [sX12_isWord2 R ok (w := 27) (by decide) (show (1735356005 : Int64) = lN (pkW (WDS.getD 27 [])) by decide +kernel), q_b_s]
  by_cases c27 : p_kd b n s = 27
  · rw [if_pos c27, if_neg (by decide), c27]
    rfl
  rw [if_neg c27, if_pos (by decide)]
  rw [if_neg (show ¬ (18 ≤ p_kd b n s ∧ p_kd b n s < 28) by omega)]
  rfl
theorem sX12_kindHere (R : RD M b n t (z_p s) s) (ok : tp_ok n b) : fX12_kindHere M = some (if 6 ≤ p_kd b n s ∧ p_kd b n s < 10 then nI (p_kd b n s - 6) else -nI 1, M) := by
  unfold fX12_kindHere
  rw [sX12_isWord2 R ok (w := 6) (by decide) (show (1819242347 : Int64) = lN (pkW (WDS.getD 6 [])) by decide +kernel), q_b_s]
  by_cases c6 : p_kd b n s = 6
  · rw [if_pos c6, if_neg (by decide), c6]
    rfl
  rw [if_neg c6, if_pos (by decide)]
  rw [sX12_isWord2 R ok (w := 7) (by decide) (show (2003792484 : Int64) = lN (pkW (WDS.getD 7 [])) by decide +kernel), q_b_s]
  by_cases c7 : p_kd b n s = 7
  · rw [if_pos c7, if_neg (by decide), c7]
    rfl
  rw [if_neg c7, if_pos (by decide)]
  rw [sX12_isWord2 R ok (w := 8) (by decide) (show (7104869 : Int64) = lN (pkW (WDS.getD 8 [])) by decide +kernel), q_b_s]
  by_cases c8 : p_kd b n s = 8
  · rw [if_pos c8, if_neg (by decide), c8]
    rfl
  rw [if_neg c8, if_pos (by decide)]
  rw [sX12_isWord2 R ok (w := 9) (by decide) (show (1651273591 : Int64) = lN (pkW (WDS.getD 9 [])) by decide +kernel), q_b_s]
  by_cases c9 : p_kd b n s = 9
  · rw [if_pos c9, if_neg (by decide), c9]
    rfl
  rw [if_neg c9, if_pos (by decide)]
  rw [if_neg (show ¬ (6 ≤ p_kd b n s ∧ p_kd b n s < 10) by omega)]
  rfl
theorem sX12_meansHere (R : RD M b n t (z_p s) s) (ok : tp_ok n b) : fX12_meansHere M = some (if 10 ≤ p_kd b n s ∧ p_kd b n s < 14 then nI (p_kd b n s - 10) else -nI 1, M) := by
  unfold fX12_meansHere
  rw [sX12_isWord2 R ok (w := 10) (by decide) (show (6451063 : Int64) = lN (pkW (WDS.getD 10 [])) by decide +kernel), q_b_s]
  by_cases c10 : p_kd b n s = 10
  · rw [if_pos c10, if_neg (by decide), c10]
    rfl
  rw [if_neg c10, if_pos (by decide)]
  rw [sX12_isWord2 R ok (w := 11) (by decide) (show (495791010425 : Int64) = lN (pkW (WDS.getD 11 [])) by decide +kernel), q_b_s]
  by_cases c11 : p_kd b n s = 11
  · rw [if_pos c11, if_neg (by decide), c11]
    rfl
  rw [if_neg c11, if_pos (by decide)]
  rw [sX12_isWord2 R ok (w := 12) (by decide) (show (119183001281906 : Int64) = lN (pkW (WDS.getD 12 [])) by decide +kernel), q_b_s]
  by_cases c12 : p_kd b n s = 12
  · rw [if_pos c12, if_neg (by decide), c12]
    rfl
  rw [if_neg c12, if_pos (by decide)]
  rw [sX12_isWord2 R ok (w := 13) (by decide) (show (123649464756579 : Int64) = lN (pkW (WDS.getD 13 [])) by decide +kernel), q_b_s]
  by_cases c13 : p_kd b n s = 13
  · rw [if_pos c13, if_neg (by decide), c13]
    rfl
  rw [if_neg c13, if_pos (by decide)]
  rw [if_neg (show ¬ (10 ≤ p_kd b n s ∧ p_kd b n s < 14) by omega)]
  rfl
theorem sX12_puts (R : RD M b n t r s) (ht : t < 6) (hz : z_z s < 256) (x : STP) : qV (fX12_puts M (nI x.1) (nI x.2)) (fun N => RD N b n t r (p_em x s) ∧ FQ SVv t M N) := by
  obtain ⟨r1, r2, r3, r4, r5, r6, r7, r8, r9⟩ := R
  unfold fX12_puts
  simp (disch := omega) only [y_lit, y_lt_T, y_lt_F, y_le_T, y_le_F, y_eq_T, y_eq_F, y_in_T, y_cl, ↓reduceIte, y_bs, y_bvs, y_os, y_on, y_t, ne_eq, not_true_eq_false, not_false_eq_true, pk_mul, nI_add, y_ii, y_ia, y_il, y_ir, y_ai, y_aa, y_al, y_ar, y_li, y_la, y_ll, y_lr, y_ri, y_ra, y_rl, y_rr, and_true, true_and, and_false, false_and, and_self, if_true, if_false, Nat.reduceEqDiff, reduceCtorEq, or_false, false_or, or_true, true_or, r2, r8]
  generalize hN : p_a _ 1000 7 t (nI (z_z s + 1)) = N
  have k : kp (fun a j => a = 1000 ∧ (j = 6 ∨ j = 7)) M N := by
    rw [← hN]
    exact (kp_a ⟨rfl, Or.inl rfl⟩).tr (kp_a ⟨rfl, Or.inr rfl⟩)
  have nS : ∀ {j : Nat}, j ≠ 6 → j ≠ 7 → ¬ (1000 = 1000 ∧ (j = 6 ∨ j = 7)) := fun x y w => by omega
  refine qV_s ⟨⟨r1.keptN k (nS (by decide) (by decide)) (nS (by decide) (by decide)), (k.i (nS (by decide) (by decide))).trans r2, (k.i (nS (by decide) (by decide))).trans r3, r4, r5, (k.i (nS (by decide) (by decide))).trans r6, (k.i (nS (by decide) (by decide))).trans r7, ?_, fun j hj => ?_⟩, k.wd (fun a j z => ⟨z.1, by have := z.2; omega⟩), fun c hc => ?_⟩
  · rw [← hN]
    simp only [y_ii, y_ia, y_il, y_ir, y_ai, y_aa, y_al, y_ar, y_li, y_la, y_ll, y_lr, y_ri, y_ra, y_rl, y_rr, and_true, true_and, and_false, false_and, and_self, if_true, if_false, Nat.reduceEqDiff, reduceCtorEq, or_false, false_or, or_true, true_or]
    rfl
  · have hj : j < z_z s + 1 := hj
    show q_a N 1000 6 (400 * t + j) = z_2 (u_f (z_S s) (z_z s) x j)
    rw [← hN]
    by_cases q : j = z_z s
    · subst q
      simp only [y_ii, y_ia, y_il, y_ir, y_ai, y_aa, y_al, y_ar, y_li, y_la, y_ll, y_lr, y_ri, y_ra, y_rl, y_rr, and_true, true_and, and_false, false_and, and_self, if_true, if_false, Nat.reduceEqDiff, reduceCtorEq, or_false, false_or, or_true, true_or, u_f_e]
      rfl
    · rw [u_f_n _ _ q]
      simp only [y_ii, y_ia, y_il, y_ir, y_ai, y_aa, y_al, y_ar, y_li, y_la, y_ll, y_lr, y_ri, y_ra, y_rl, y_rr, and_true, true_and, and_false, false_and, and_self, if_true, if_false, Nat.reduceEqDiff, reduceCtorEq, or_false, false_or, or_true, true_or, show ¬ 400 * t + j = 400 * t + z_z s by omega]
      exact r9 j (by omega)
  · rw [← hN]
    simp only [y_ii, y_ia, y_il, y_ir, y_ai, y_aa, y_al, y_ar, y_li, y_la, y_ll, y_lr, y_ri, y_ra, y_rl, y_rr, and_true, true_and, and_false, false_and, and_self, if_true, if_false, Nat.reduceEqDiff, reduceCtorEq, or_false, false_or, or_true, true_or, show ¬ c = 400 * t + z_z s by omega]
theorem sX12_makes (R : RD M b n t r s) (hk : z_k s ≤ 50) {p : Nat} (hp : p ≤ 400) : (z_k s < 50 ∧ ∃ N, fX12_makes M (nI p) = some (nI 1, N) ∧ RD N b n t r (z_p s, z_k s + 1, z_z s, z_S s) ∧ kp SM M N) ∨ (¬ z_k s < 50 ∧ ∃ N, fX12_makes M (nI p) = some (nI 0, N) ∧ q_i N 1000 15 = nI (fl 3 p) ∧ kp SM M N) := by
  obtain ⟨r1, r2, r3, r4, r5, r6, r7, r8, r9⟩ := R
  unfold fX12_makes
  rw [r7]
  by_cases c : z_k s < 50
  · have k : kp (fun a j => a = 1000 ∧ j = 18) M (p_i M 1000 18 (nI (z_k s + 1))) := kp_i ⟨rfl, rfl⟩
    have nS : ∀ {j : Nat}, j ≠ 18 → ¬ (1000 = 1000 ∧ j = 18) := fun x w => x w.2
    refine Or.inl ⟨c, _, ?_, ⟨r1.keptN k (nS (by decide)) (nS (by decide)), (k.i (nS (by decide))).trans r2, (k.i (nS (by decide))).trans r3, r4, r5, (k.i (nS (by decide))).trans r6, ?_, (k.a (nS (by decide))).trans r8, fun j hj => (k.a (nS (by decide))).trans (r9 j hj)⟩, k.wd (fun a j z => ⟨z.1, Or.inr z.2⟩)⟩
    · rw [if_pos (show nI (z_k s) ≠ (50 : Int32) from fun z => absurd ((nI_eq (by omega) (by decide)).mp (show nI (z_k s) = nI 50 from z)) (by omega)), show nI (z_k s) + (1 : Int32) = nI (z_k s + 1) from nI_add _ 1, q_t]
      rfl
    · simp only [y_ii, y_ia, y_il, y_ir, y_ai, y_aa, y_al, y_ar, y_li, y_la, y_ll, y_lr, y_ri, y_ra, y_rl, y_rr, and_true, true_and, and_false, false_and, and_self, if_true, if_false, Nat.reduceEqDiff, reduceCtorEq, or_false, false_or, or_true, true_or]
      rfl
  · have e : z_k s = 50 := by omega
    refine Or.inr ⟨c, p_i M 1000 15 (nI (fl 3 p)), ?_, by simp only [y_ii, y_ia, y_il, y_ir, y_ai, y_aa, y_al, y_ar, y_li, y_la, y_ll, y_lr, y_ri, y_ra, y_rl, y_rr, and_true, true_and, and_false, false_and, and_self, if_true, if_false, Nat.reduceEqDiff, reduceCtorEq, or_false, false_or, or_true, true_or], kp_i ⟨rfl, Or.inl rfl⟩⟩
    rw [e, if_neg (by decide), show fX12_fails M (3 : Int32) (nI p) = _ from sX12_fails r6 (k := 3) (by decide) hp, q_b_s, if_pos (by decide)]
theorem sX12_value (R : RD M b n t r s) (ok : tp_ok n b) (ht : t < 6) (hz : BZ n 0 s) : qW (fX12_value M) (P2 SVv b n t M (p_val b n s)) := by
  have hn := ok.1
  have hzz := hz.z hn
  obtain ⟨N, e, R2, k⟩ := sX12_see R ok
  have hr := R2.2.2.2.1
  have e14 := R2.2.2.1
  have k1 : FQ SVv t M N := FQ.of k SN_SVv (not_SN (by decide))
  unfold fX12_value p_val
  rw [e, q_b_s, e14, sX12_isDigit R2.1 ok hr, q_b_s]
  by_cases c : z_p s < n ∧ isD (b (z_p s)) = true
  · have c30 : p_kd b n s = 30 := kd_30.mpr ⟨c.1, isD_L c.2, c.2⟩
    rw [if_pos c, if_neg (by decide), if_neg (show ¬ (18 ≤ p_kd b n s ∧ p_kd b n s < 28) by omega), if_pos c30]
    obtain ⟨v, N2, g1, g2, g3⟩ := sX12_number R2 ok (lo := 0) (hi := 9999) (by decide) (by decide)
    rw [show fX12_number N (0 : Int32) (9999 : Int32) = some (v, N2) from g1, q_b_s]
    unfold p_num at g2
    rw [if_pos c30] at g2
    by_cases c4 : de b n (z_p s) - z_p s ≤ 4
    · have hv := nv_b (b := b) (n := n) (p := z_p s) hr c4
      rw [if_pos (show de b n (z_p s) - z_p s ≤ 4 ∧ 0 ≤ nv b n (z_p s) ∧ nv b n (z_p s) ≤ 9999 from ⟨c4, Nat.zero_le _, by omega⟩)] at g2
      rw [if_pos c4]
      obtain ⟨g2, rfl, r2, R3⟩ := g2
      have k2 := k1.tr (g2.wd SU_SVv)
      rw [if_neg (by decide)]
      unfold p_mk
      rcases sX12_makes R3 hz.2.2 (p := z_p s) (by omega) with ⟨q, N3, a1, R4, k3⟩ | ⟨q, N3, a1, a2, k3⟩
      · have q : z_k s < 50 := q
        have e16 : q_i N3 1000 16 = nI (nv b n (z_p s)) := (k3.i (fun z => by have := z.2; omega)).trans (g3 (by decide))
        have k3 : FQ SVv t N2 N3 := FQ.of k3 SM_SVv not_SM6
        rw [if_pos q, a1, q_b_s, if_pos (by decide), e16]
        obtain ⟨N4, b1, R5, k4⟩ := sX12_puts R4 ht hzz (0, nv b n (z_p s))
        rw [show fX12_puts N3 (0 : Int32) (nI (nv b n (z_p s))) = some N4 from b1, q_bv_s]
        exact qW_s ⟨(k2.tr k3).tr k4, rfl, r2, R5⟩
      · have q : ¬ z_k s < 50 := q
        have k3 : FQ SVv t N2 N3 := FQ.of k3 SM_SVv not_SM6
        rw [if_neg q, a1, q_b_s, if_neg (by decide)]
        exact qW_s ⟨k2.tr k3, rfl, a2⟩
    · rw [if_neg (show ¬ (de b n (z_p s) - z_p s ≤ 4 ∧ 0 ≤ nv b n (z_p s) ∧ nv b n (z_p s) ≤ 9999) from fun z => c4 z.1)] at g2
      obtain ⟨g2, rfl, g4⟩ := g2
      rw [if_neg c4, if_pos (by decide)]
      exact qW_s ⟨k1.tr (g2.wd SU_SVv), rfl, g4⟩
  · have c30 : ¬ p_kd b n s = 30 := fun z => c ⟨(kd_30.mp z).1, (kd_30.mp z).2.2⟩
    rw [if_neg c, if_pos (by decide), sX12_wordHere R2 ok, q_b_s]
    by_cases cw : 18 ≤ p_kd b n s ∧ p_kd b n s < 28
    · rw [if_pos cw, if_pos cw, if_pos (show (0 : Int32) ≤ nI (p_kd b n s - 18) from nI_le (a := 0) (by omega) (by omega))]
      unfold p_mk
      rcases sX12_makes R2 hz.2.2 (p := z_p s) (by omega) with ⟨q, N3, a1, R4, k3⟩ | ⟨q, N3, a1, a2, k3⟩
      · have k3 : FQ SVv t N N3 := FQ.of k3 SM_SVv not_SM6
        obtain ⟨N4, b1, k4, r4, R5⟩ := sX12_passWord (s := (z_p s, z_k s + 1, z_z s, z_S s)) R4 ok (show p_kd b n s < 28 from cw.2)
        have k4 : FQ SVv t N3 N4 := FQ.of k4 SN_SVv (not_SN (by decide))
        obtain ⟨N5, d1, R6, k5⟩ := sX12_puts R5 ht hzz (1, p_kd b n s - 18)
        rw [if_pos q, a1, q_b_s, if_pos (by decide), b1, q_bv_s, show fX12_puts N4 (1 : Int32) (nI (p_kd b n s - 18)) = some N5 from d1, q_bv_s]
        exact qW_s ⟨((k1.tr k3).tr k4).tr k5, rfl, r4, R6⟩
      · have k3 : FQ SVv t N N3 := FQ.of k3 SM_SVv not_SM6
        rw [if_neg q, a1, q_b_s, if_neg (by decide)]
        exact qW_s ⟨k1.tr k3, rfl, a2⟩
    · rw [if_neg cw, if_neg cw, if_neg (by decide), if_neg c30, show fX12_fails N (0 : Int32) (nI (z_p s)) = _ from sX12_fails R2.2.2.2.2.2.1 (k := 0) (by decide) (by omega), q_b_s, if_pos (by decide)]
      refine qW_s ⟨k1.tr (FQ.of (S := SM) (kp_i ⟨rfl, by decide⟩) SM_SVv not_SM6), rfl, ?_⟩
      simp only [y_ii, y_ia, y_il, y_ir, y_ai, y_aa, y_al, y_ar, y_li, y_la, y_ll, y_lr, y_ri, y_ra, y_rl, y_rr, and_true, true_and, and_false, false_and, and_self, if_true, if_false, Nat.reduceEqDiff, reduceCtorEq, or_false, false_or, or_true, true_or]
end LEAVES
