/-! the reference's reader: sums, comparisons -/
section SIGNS
variable {b : Nat → Nat} {n p : Nat}
theorem kd_sgn (h : p < n) (hl : isL (b p) = false) (hd : isD (b p) = false) : kd b n p = sgn (b p) (if p + 1 < n then b (p + 1) else 0) := by
  unfold kd
  rw [if_neg (by omega), if_neg (by rw [hl]; decide), if_neg (by rw [hd]; decide)]
theorem kd_256 (h : 256 ≤ kd b n p) : p < n ∧ isL (b p) = false ∧ isD (b p) = false := by
  have hp := kd_on (b := b) (n := n) (p := p) (by omega)
  unfold kd at h
  rw [if_neg (by omega)] at h
  cases c : isL (b p) with
  | true =>
    rw [c, if_pos rfl] at h
    rcases wi_28 (wl b n p) with q | q <;> omega
  | false =>
    rw [c, if_neg (by decide)] at h
    cases d : isD (b p) with
    | true =>
      rw [d, if_pos rfl] at h
      omega
    | false => exact ⟨hp, rfl, rfl⟩
theorem not_L {x : Nat} (h : x < 97) : isL x = false := by
  cases c : isL x with
  | false => rfl
  | true =>
    have := isL_I.mp c
    omega
theorem not_D {x : Nat} (h : x < 48 ∨ 57 < x) : isD x = false := by
  cases c : isD x with
  | false => rfl
  | true =>
    have := isD_I.mp c
    omega
theorem sgn_1 {c d : Nat} (h : c = 43 ∨ c = 45 ∨ c = 59 ∨ c = 61 ∨ c = 91 ∨ c = 93) : sgn c d = 256 + c := by
  unfold sgn
  rw [if_pos h]
theorem sgn_2 {c d : Nat} (h : c = 60 ∨ c = 62) : sgn c d = if d = 61 then 512 + c else 256 + c := by
  unfold sgn
  rw [if_neg (by omega), if_pos h]
theorem sgn_3 {c d k : Nat} (h : sgn c d = k) (hk : k ≠ 32) : k = 256 + c ∧ (c = 43 ∨ c = 45 ∨ c = 59 ∨ c = 61 ∨ c = 91 ∨ c = 93) ∨ (c = 60 ∨ c = 62) ∧ (k = 256 + c ∨ k = 512 + c) := by
  unfold sgn at h
  by_cases c1 : c = 43 ∨ c = 45 ∨ c = 59 ∨ c = 61 ∨ c = 91 ∨ c = 93
  · rw [if_pos c1] at h
    exact Or.inl ⟨h.symm, c1⟩
  · rw [if_neg c1] at h
    by_cases c2 : c = 60 ∨ c = 62
    · rw [if_pos c2] at h
      by_cases c3 : d = 61
      · rw [if_pos c3] at h
        exact Or.inr ⟨c2, Or.inr h.symm⟩
      · rw [if_neg c3] at h
        exact Or.inr ⟨c2, Or.inl h.symm⟩
    · rw [if_neg c2] at h
      exact absurd h.symm hk
theorem kd_sg {c : Nat} (hc : c = 43 ∨ c = 45 ∨ c = 59 ∨ c = 61 ∨ c = 91 ∨ c = 93) : kd b n p = 256 + c ↔ p < n ∧ b p = c := by
  refine ⟨fun h => ?_, fun h => ?_⟩
  · obtain ⟨h1, h2, h3⟩ := kd_256 (b := b) (n := n) (p := p) (by omega)
    rw [kd_sgn h1 h2 h3] at h
    refine ⟨h1, ?_⟩
    rcases sgn_3 h (by omega) with g | g <;> omega
  · rw [kd_sgn h.1 (not_L (by omega)) (not_D (by omega)), h.2]
    exact sgn_1 hc
theorem kd_6 {c : Nat} (hc : c = 60 ∨ c = 62) (h : p < n) (h2 : b p = c) : kd b n p = if p + 1 < n ∧ b (p + 1) = 61 then 512 + c else 256 + c := by
  rw [kd_sgn h (not_L (by omega)) (not_D (by omega)), h2, sgn_2 hc]
  by_cases c1 : p + 1 < n
  · rw [if_pos c1]
    by_cases c2 : b (p + 1) = 61
    · rw [if_pos c2, if_pos ⟨c1, c2⟩]
    · rw [if_neg c2, if_neg (fun z => c2 z.2)]
  · rw [if_neg c1, if_neg (by decide), if_neg (fun z => c1 z.1)]
theorem op_no (h : p < n → b p ≠ 60 ∧ b p ≠ 61 ∧ b p ≠ 62) : p_op (kd b n p) = 0 := by
  by_cases q : 256 ≤ kd b n p
  · obtain ⟨h1, h2, h3⟩ := kd_256 q
    have e := kd_sgn h1 h2 h3
    have g := h h1
    have := sgn_3 e.symm (by omega)
    unfold p_op
    rw [if_neg (by omega), if_neg (by omega), if_neg (by omega), if_neg (by omega), if_neg (by omega)]
  · unfold p_op
    rw [if_neg (by omega), if_neg (by omega), if_neg (by omega), if_neg (by omega), if_neg (by omega)]
theorem te_sg (h : 256 ≤ kd b n p) : te b n p = if kd b n p < 512 then p + 1 else p + 2 := by
  obtain ⟨h1, h2, h3⟩ := kd_256 h
  unfold te
  rw [if_neg (by rw [h2]; decide), if_neg (by rw [h3]; decide)]
end SIGNS
theorem y_pp (M : QM) (o j : Nat) (u v : Int32) : p_i (p_i M o j u) o j v = p_i M o j v := by
  show ((fun a c => if a = o ∧ c = j then v else (if a = o ∧ c = j then u else M.1 a c)), M.2) = ((fun a c => if a = o ∧ c = j then v else M.1 a c), M.2)
  congr 1
  funext a c
  by_cases h : a = o ∧ c = j
  · rw [if_pos h, if_pos h]
  · rw [if_neg h, if_neg h, if_neg h]
section COMPARE
variable {M : QM} {b : Nat → Nat} {n t r : Nat} {s : PZ}
theorem chI_y (h : r < n) : chI b n r = nI (b r) := if_pos h
theorem chI_n (h : ¬ r < n) : chI b n r = -nI 1 := if_neg h
theorem chI_eq (ok : tp_ok n b) {c : Nat} (hc : c < 1000) : chI b n r = nI c ↔ r < n ∧ b r = c := by
  by_cases h : r < n
  · have hb := ok.2 r h
    rw [chI_y h, nI_eq (by omega) (by omega)]
    exact ⟨fun z => ⟨h, z⟩, fun z => z.2⟩
  · rw [chI_n h]
    refine ⟨fun z => ?_, fun z => absurd z.1 h⟩
    have := m1_eqF (k := c) (by omega)
    rw [this] at z
    exact z.elim
/-- a sign is passed -/
theorem RD.sign (R : RD M b n t (z_p s) s) (h : 256 ≤ p_kd b n s) (h2 : p_kd b n s < 512) : RD (p_i M 1000 14 (nI (z_p s + 1))) b n t (z_p s + 1) (p_nx b n s) ∧ kp SN M (p_i M 1000 14 (nI (z_p s + 1))) := by
  have k : kp SN M (p_i M 1000 14 (nI (z_p s + 1))) := kp_i ⟨rfl, rfl⟩
  have hp := p_kd_on (b := b) (n := n) (s := s) (by omega)
  have e : te b n (z_p s) = z_p s + 1 := by
    rw [te_sg h]
    exact if_pos h2
  exact ⟨R.on k (by simp only [y_ii, y_ia, y_il, y_ir, y_ai, y_aa, y_al, y_ar, y_li, y_la, y_ll, y_lr, y_ri, y_ra, y_rl, y_rr, and_true, true_and, and_false, false_and, and_self, if_true, if_false, Nat.reduceEqDiff, reduceCtorEq, or_false, false_or, or_true, true_or]) hp (by rw [← e]; rfl), k⟩
theorem RD.sign2 (R : RD M b n t (z_p s) s) (h : 512 ≤ p_kd b n s) : RD (p_i M 1000 14 (nI (z_p s + 2))) b n t (z_p s + 2) (p_nx b n s) ∧ kp SN M (p_i M 1000 14 (nI (z_p s + 2))) := by
  have k : kp SN M (p_i M 1000 14 (nI (z_p s + 2))) := kp_i ⟨rfl, rfl⟩
  have hp := p_kd_on (b := b) (n := n) (s := s) (by omega)
  have e : te b n (z_p s) = z_p s + 2 := by
    rw [te_sg (show 256 ≤ kd b n (z_p s) from Nat.le_trans (by decide) h)]
    exact if_neg (show ¬ kd b n (z_p s) < 512 from Nat.not_lt.mpr h)
  have g := (te_b (b := b) hp).2
  exact ⟨R.on k (by simp only [y_ii, y_ia, y_il, y_ir, y_ai, y_aa, y_al, y_ar, y_li, y_la, y_ll, y_lr, y_ri, y_ra, y_rl, y_rr, and_true, true_and, and_false, false_and, and_self, if_true, if_false, Nat.reduceEqDiff, reduceCtorEq, or_false, false_or, or_true, true_or]) (by omega) (by rw [← e]; rfl), k⟩
theorem sX12_sum_b9 (ok : tp_ok n b) (ht : t < 6) : ∀ (f q : Nat) (M : QM) (r : Nat) (s : PZ), n - z_p s < f → f ≤ q → RD M b n t r s → BZ n 0 s → qW (fX12_sum_b9 q M) (P2 SVv b n t M (p_sumL b n f s)) := by
  have hn := ok.1
  intro f
  induction f with
  | zero => intro q M r s h; omega
  | succ f ih =>
    intro q M r s h1 h2 R hz
    obtain ⟨q, rfl⟩ : ∃ p, q = p + 1 := ⟨q - 1, by omega⟩
    obtain ⟨N, e, R2, k⟩ := sX12_see R ok
    have e14 := R2.2.2.1
    have k1 : FQ SVv t M N := FQ.of k SN_SVv (not_SN (by decide))
    have step : ∀ op, p_kd b n s = 299 ∧ op = 2 ∨ p_kd b n s = 301 ∧ op = 3 → qW (fX12_sum_b27 (fun M => fX12_sum_b9 q M) N) (P2 SVv b n t M (x_b (p_val b n (p_nx b n s)) (fun s1 => p_sumL b n f (p_em (op, 0) s1)))) := fun op hop => by
      have hp := p_kd_on (b := b) (n := n) (s := s) (by omega)
      obtain ⟨R3, k3⟩ := R2.sign (by omega) (by omega)
      have k3 : FQ SVv t N _ := FQ.of k3 SN_SVv (not_SN (by decide))
      have g := kk_nx (b := b) (n := n) (s := s) (by omega)
      have hz1 := hz.nx (b := b) (k := 1) g.1 g.2
      obtain ⟨v, N2, a1, k2, a2⟩ := sX12_value R3 ok ht (hz1.le (Nat.zero_le _))
      have go : qW (fX12_sum_b46 (fun M => fX12_sum_b9 q M) N (nI op)) (P2 SVv b n t M (x_b (p_val b n (p_nx b n s)) (fun s1 => p_sumL b n f (p_em (op, 0) s1)))) := by
        unfold fX12_sum_b46
        rw [e14, show nI (z_p s) + (1 : Int32) = nI (z_p s + 1) from nI_add _ 1, q_t, a1, q_b_s]
        cases hv : p_val b n (p_nx b n s) with
        | error f =>
          rw [hv] at a2
          obtain ⟨rfl, a2⟩ := a2
          rw [if_neg (by decide)]
          exact qW_s ⟨(k1.tr k3).tr k2, rfl, a2⟩
        | ok s1 =>
          rw [hv] at a2
          obtain ⟨rfl, r4, R4⟩ := a2
          have hz2 := hz1.val hv
          have T := (p_val_ty (ts := []) hv (Nat.zero_le _)).1
          have t1 : nx b n (z_p s) < z_p s1 := T.1
          have t2 := T.2.1
          obtain ⟨N3, b1, R5, k4⟩ := sX12_puts R4 ht (hz2.z hn) (op, 0)
          rw [if_pos (by decide), show fX12_puts N2 (nI op) (0 : Int32) = some N3 from b1, q_bv_s]
          obtain ⟨v5, N5, c1, c2⟩ := ih q N3 r4 (p_em (op, 0) s1) (by show n - z_p s1 < f; omega) (by omega) R5 (hz2.em _)
          exact ⟨v5, N5, c1, P2.tr (((k1.tr k3).tr k2).tr k4) c2⟩
      have e3 := R2.1.2 (z_p s) hp
      unfold fX12_sum_b27
      rw [e14, if_pos (q_inN (show z_p s < 400 by omega) (by decide)), nI_cl (by omega), e3]
      rcases hop with ⟨c, rfl⟩ | ⟨c, rfl⟩
      · have cb := ((kd_sg (c := 43) (by decide)).mp c).2
        rw [cb, if_neg (by decide)]
        exact go
      · have cb := ((kd_sg (c := 45) (by decide)).mp c).2
        rw [cb, if_pos (by decide)]
        exact go
    rw [fX12_sum_b9, e, q_b_s]
    unfold p_sumL
    by_cases c1 : p_kd b n s = 299
    · rw [if_pos c1, if_pos (show chI b n (z_p s) = (43 : Int32) from (chI_eq ok (c := 43) (by decide)).mpr ((kd_sg (c := 43) (by decide)).mp c1))]
      exact step 2 (Or.inl ⟨c1, rfl⟩)
    · rw [if_neg c1, if_neg (show ¬ chI b n (z_p s) = (43 : Int32) from fun z => c1 ((kd_sg (c := 43) (by decide)).mpr ((chI_eq ok (c := 43) (by decide)).mp z))), sX12_see2 R2 ok, q_b_s]
      by_cases c2 : p_kd b n s = 301
      · rw [if_pos c2, if_neg (show ¬ chI b n (z_p s) ≠ (45 : Int32) from fun z => z ((chI_eq ok (c := 45) (by decide)).mpr ((kd_sg (c := 45) (by decide)).mp c2)))]
        exact step 3 (Or.inr ⟨c2, rfl⟩)
      · rw [if_neg c2, if_pos (show chI b n (z_p s) ≠ (45 : Int32) from fun z => c2 ((kd_sg (c := 45) (by decide)).mpr ((chI_eq ok (c := 45) (by decide)).mp z)))]
        exact qW_s ⟨k1, rfl, _, R2⟩
theorem sX12_sum (R : RD M b n t r s) (ok : tp_ok n b) (ht : t < 6) (hz : BZ n 0 s) : qW (fX12_sum M) (P2 SVv b n t M (p_sum b n s)) := by
  have hn := ok.1
  obtain ⟨v, N, e, k, g⟩ := sX12_value R ok ht hz
  unfold fX12_sum p_sum
  rw [e, q_b_s]
  cases hv : p_val b n s with
  | error f =>
    rw [hv] at g
    obtain ⟨rfl, g⟩ := g
    rw [if_neg (by decide)]
    exact qW_s ⟨k, rfl, g⟩
  | ok s1 =>
    rw [hv] at g
    obtain ⟨rfl, r2, R2⟩ := g
    have T := (p_val_ty (ts := []) hv (Nat.zero_le _)).1
    have t1 := T.1
    have t2 := T.2.1
    rw [if_pos (by decide)]
    obtain ⟨v5, N5, c1, c2⟩ := sX12_sum_b9 ok ht 400 q_F N r2 s1 (by omega) (by decide) R2 ((hz.val hv).le (Nat.zero_le _))
    exact ⟨v5, N5, c1, P2.tr k c2⟩
/-- what follows a comparison's sign -/
def p_rhs (b : Nat → Nat) (n op : Nat) (s : PZ) : Except Nat PZ := x_b (p_mk s) (fun s2 => x_b (p_sum b n (p_nx b n s2)) (fun s3 => .ok (p_em (op, 0) s3)))
theorem sX12_compare_b105 {N : QM} {r2 : Nat} (R : RD N b n t r2 (p_nx b n s)) (ok : tp_ok n b) (ht : t < 6) (hz : BZ n 1 s) (h31 : p_kd b n s ≠ 31) {x1 x3 op : Nat} (h : x1 = 60 ∧ x3 = 0 ∧ op = 4 ∨ x1 = 60 ∧ x3 = 1 ∧ op = 5 ∨ x1 = 61 ∧ x3 = 0 ∧ op = 6 ∨ x1 = 62 ∧ x3 = 1 ∧ op = 7 ∨ x1 = 62 ∧ x3 = 0 ∧ op = 8) : qW (fX12_compare_b105 N (nI x1) (nI (z_p s)) (nI x3)) (P2 SVv b n t N (p_rhs b n op s)) := by
  have hn := ok.1
  have hp := p_kd_on h31
  have g1 := kk_nx h31
  unfold fX12_compare_b105 p_rhs p_mk
  rcases sX12_makes R (show z_k s ≤ 50 from hz.2.2) (p := z_p s) (by omega) with ⟨q, N3, a1, R4, k3⟩ | ⟨q, N3, a1, a2, k3⟩
  · have q : z_k s < 50 := q
    have k3 : FQ SVv t N N3 := FQ.of k3 SM_SVv not_SM6
    have hz2 : BZ n 4 (p_nx b n (z_p s, z_k s + 1, z_z s, z_S s)) := by
      have q1 := hz.1
      refine ⟨?_, g1.2, q⟩
      show 2 * z_z s + 4 ≤ nx b n (z_p s) + 2 * (z_k s + 1)
      omega
    rw [a1, q_b_s, if_pos (by decide), if_pos q]
    have go : qW (fX12_compare_b152 N3 (nI (op - 4))) (P2 SVv b n t N (x_b (p_sum b n (p_nx b n (z_p s, z_k s + 1, z_z s, z_S s))) (fun s3 => .ok (p_em (op, 0) s3)))) := by
      obtain ⟨v, N4, b1, k4, b2⟩ := sX12_sum (s := p_nx b n (z_p s, z_k s + 1, z_z s, z_S s)) R4 ok ht (hz2.le (Nat.zero_le _))
      unfold fX12_compare_b152
      rw [b1, q_b_s]
      cases hv : p_sum b n (p_nx b n (z_p s, z_k s + 1, z_z s, z_S s)) with
      | error f =>
        rw [hv] at b2
        obtain ⟨rfl, b2⟩ := b2
        rw [if_neg (by decide)]
        exact qW_s ⟨k3.tr k4, rfl, b2⟩
      | ok s3 =>
        rw [hv] at b2
        obtain ⟨rfl, r5, R5⟩ := b2
        have hz3 := hz2.sum hv
        obtain ⟨N6, d1, R6, k6⟩ := sX12_puts R5 ht (hz3.z hn) (op, 0)
        rw [if_pos (by decide), show (4 : Int32) + nI (op - 4) = nI op from by rw [show (4 : Int32) + nI (op - 4) = nI (4 + (op - 4)) from nI_add 4 _, show 4 + (op - 4) = op by omega], show fX12_puts N4 (nI op) (0 : Int32) = some N6 from d1, q_bv_s]
        exact qW_s ⟨(k3.tr k4).tr k6, rfl, r5, R6⟩
    rcases h with ⟨h1, h2, h3⟩ | ⟨h1, h2, h3⟩ | ⟨h1, h2, h3⟩ | ⟨h1, h2, h3⟩ | ⟨h1, h2, h3⟩ <;> subst h1 <;> subst h2 <;> subst h3
    · rw [if_neg (by decide), if_pos (by decide)]
      exact go
    · rw [if_neg (by decide), if_neg (by decide)]
      exact go
    · rw [if_pos (by decide), if_neg (by decide)]
      exact go
    · rw [if_pos (by decide), if_pos (by decide), if_neg (by decide)]
      exact go
    · rw [if_pos (by decide), if_pos (by decide), if_pos (by decide)]
      exact go
  · have q : ¬ z_k s < 50 := q
    have k3 : FQ SVv t N N3 := FQ.of k3 SM_SVv not_SM6
    rw [a1, q_b_s, if_neg (by decide), if_neg q]
    exact qW_s ⟨k3, rfl, a2⟩
theorem sX12_compare (R : RD M b n t r s) (ok : tp_ok n b) (ht : t < 6) (hz : BZ n 0 s) : qW (fX12_compare M) (P2 SVv b n t M (p_cmp b n s)) := by
  have hn := ok.1
  obtain ⟨v, N, e, k, g⟩ := sX12_sum R ok ht hz
  unfold fX12_compare p_cmp
  rw [e, q_b_s]
  cases hv : p_sum b n s with
  | error f =>
    rw [hv] at g
    obtain ⟨rfl, g⟩ := g
    rw [if_neg (by decide)]
    exact qW_s ⟨k, rfl, g⟩
  | ok s1 =>
    rw [hv] at g
    obtain ⟨rfl, r2, R2⟩ := g
    have hz1 : BZ n 1 s1 := hz.sum hv
    obtain ⟨N2, e2, R3, k2⟩ := sX12_see R2 ok
    have k2 : FQ SVv t N N2 := FQ.of k2 SN_SVv (not_SN (by decide))
    have kk := k.tr k2
    have e14 := R3.2.2.1
    have hr := R3.2.2.2.1
    rw [if_pos (by decide), e2, q_b_s, e14]
    show qW _ (P2 SVv b n t M (if p_op (p_kd b n s1) = 0 then .error (fl 0 (z_p s1)) else p_rhs b n (p_op (p_kd b n s1)) s1))
    have go : ∀ (x1 x3 op : Nat) (N4 : QM) (r4 : Nat), p_op (p_kd b n s1) = op → 0 < op → p_kd b n s1 ≠ 31 → (x1 = 60 ∧ x3 = 0 ∧ op = 4 ∨ x1 = 60 ∧ x3 = 1 ∧ op = 5 ∨ x1 = 61 ∧ x3 = 0 ∧ op = 6 ∨ x1 = 62 ∧ x3 = 1 ∧ op = 7 ∨ x1 = 62 ∧ x3 = 0 ∧ op = 8) → RD N4 b n t r4 (p_nx b n s1) → kp SN N2 N4 → qW (fX12_compare_b105 N4 (nI x1) (nI (z_p s1)) (nI x3)) (P2 SVv b n t M (if p_op (p_kd b n s1) = 0 then .error (fl 0 (z_p s1)) else p_rhs b n (p_op (p_kd b n s1)) s1)) := fun x1 x3 op N4 r4 h1 h2 h31 h R4 k4 => by
      obtain ⟨v, N5, a1, a2⟩ := sX12_compare_b105 R4 ok ht hz1 h31 h
      rw [if_neg (by omega), h1]
      exact ⟨v, N5, a1, P2.tr (kk.tr (FQ.of k4 SN_SVv (not_SN (by decide)))) a2⟩
    have e4 : q_i N2 1000 4 = nI n := R3.1.1
    have f4 : ∀ x, q_i (p_i N2 1000 14 x) 1000 4 = nI n := fun x => by
      simp only [y_ii, y_ia, y_il, y_ir, y_ai, y_aa, y_al, y_ar, y_li, y_la, y_ll, y_lr, y_ri, y_ra, y_rl, y_rr, and_true, true_and, and_false, false_and, and_self, if_true, if_false, Nat.reduceEqDiff, reduceCtorEq, or_false, false_or, or_true, true_or]
      exact e4
    have f14 : ∀ x, q_i (p_i N2 1000 14 x) 1000 14 = x := fun x => by simp only [y_ii, y_ia, y_il, y_ir, y_ai, y_aa, y_al, y_ar, y_li, y_la, y_ll, y_lr, y_ri, y_ra, y_rl, y_rr, and_true, true_and, and_false, false_and, and_self, if_true, if_false, Nat.reduceEqDiff, reduceCtorEq, or_false, false_or, or_true, true_or]
    have f3 : ∀ x i, q_a (p_i N2 1000 14 x) 1000 3 i = q_a N2 1000 3 i := fun x i => by simp only [y_ii, y_ia, y_il, y_ir, y_ai, y_aa, y_al, y_ar, y_li, y_la, y_ll, y_lr, y_ri, y_ra, y_rl, y_rr, and_true, true_and, and_false, false_and, and_self, if_true, if_false, Nat.reduceEqDiff, reduceCtorEq, or_false, false_or, or_true, true_or]
    have six : ∀ c, (c = 60 ∨ c = 62) → z_p s1 < n → b (z_p s1) = c → qW (fX12_compare_b44 N2 (nI c) (nI (z_p s1))) (P2 SVv b n t M (if p_op (p_kd b n s1) = 0 then .error (fl 0 (z_p s1)) else p_rhs b n (p_op (p_kd b n s1)) s1)) := fun c hc hp hb => by
      have ek := kd_6 hc hp hb
      have ek : p_kd b n s1 = _ := ek
      unfold fX12_compare_b44
      rw [e14, show nI (z_p s1) + (1 : Int32) = nI (z_p s1 + 1) from nI_add _ 1, q_t, if_neg (by rcases hc with q | q <;> subst q <;> decide), f4, f14]
      by_cases c1 : z_p s1 + 1 < n
      · rw [if_neg (nI_ge c1 (by omega)), if_pos (q_inN (show z_p s1 + 1 < 400 by omega) (by decide)), nI_cl (by omega), f3, R3.1.2 _ c1]
        have hb1 := ok.2 _ c1
        by_cases c2 : b (z_p s1 + 1) = 61
        · rw [if_pos ⟨c1, c2⟩] at ek
          obtain ⟨R4, k4⟩ := R3.sign2 (by omega)
          rw [c2, if_neg (by decide)]
          unfold fX12_compare_b90
          rw [if_neg (by decide), f14, show nI (z_p s1 + 1) + (1 : Int32) = nI (z_p s1 + 2) from nI_add _ 1, q_t]
          rw [show p_i (p_i N2 1000 14 (nI (z_p s1 + 1))) 1000 14 (nI (z_p s1 + 2)) = p_i N2 1000 14 (nI (z_p s1 + 2)) from y_pp _ _ _ _ _]
          rcases hc with q | q <;> subst q
          · exact go 60 1 5 _ _ (by rw [ek]; decide) (by decide) (by rw [ek]; decide) (by decide) R4 k4
          · exact go 62 1 7 _ _ (by rw [ek]; decide) (by decide) (by rw [ek]; decide) (by decide) R4 k4
        · have hne : sg (b (z_p s1 + 1)) ≠ (61 : Int32) := fun z => by
            have := sg_and hb1
            rw [z] at this
            exact c2 ((nI_eq (by omega) (by decide)).mp (this.symm.trans (by decide : (61 : Int32) &&& nI 255 = nI 61)))
          rw [if_neg (fun z => c2 z.2)] at ek
          obtain ⟨R4, k4⟩ := R3.sign (by omega) (by omega)
          rw [if_pos hne]
          unfold fX12_compare_b89 fX12_compare_b90
          rw [if_pos rfl]
          rcases hc with q | q <;> subst q
          · exact go 60 0 4 _ _ (by rw [ek]; decide) (by decide) (by rw [ek]; decide) (by decide) R4 k4
          · exact go 62 0 8 _ _ (by rw [ek]; decide) (by decide) (by rw [ek]; decide) (by decide) R4 k4
      · rw [if_neg (fun z => c1 z.1)] at ek
        obtain ⟨R4, k4⟩ := R3.sign (by omega) (by omega)
        rw [if_pos (nI_le (by omega) (by omega))]
        unfold fX12_compare_b89 fX12_compare_b90
        rw [if_pos rfl]
        rcases hc with q | q <;> subst q
        · exact go 60 0 4 _ _ (by rw [ek]; decide) (by decide) (by rw [ek]; decide) (by decide) R4 k4
        · exact go 62 0 8 _ _ (by rw [ek]; decide) (by decide) (by rw [ek]; decide) (by decide) R4 k4
    by_cases c60 : z_p s1 < n ∧ b (z_p s1) = 60
    · have ec : chI b n (z_p s1) = nI 60 := (chI_eq ok (c := 60) (by decide)).mpr c60
      rw [ec, if_pos (by decide)]
      exact six 60 (Or.inl rfl) c60.1 c60.2
    by_cases c61 : z_p s1 < n ∧ b (z_p s1) = 61
    · have ec : chI b n (z_p s1) = nI 61 := (chI_eq ok (c := 61) (by decide)).mpr c61
      have ek : p_kd b n s1 = 317 := (kd_sg (c := 61) (by decide)).mpr c61
      obtain ⟨R4, k4⟩ := R3.sign (by omega) (by omega)
      rw [ec, if_neg (by decide), if_pos (by decide)]
      unfold fX12_compare_b44
      rw [e14, show nI (z_p s1) + (1 : Int32) = nI (z_p s1 + 1) from nI_add _ 1, q_t, if_pos (by decide)]
      unfold fX12_compare_b89 fX12_compare_b90
      rw [if_pos rfl]
      exact go 61 0 6 _ _ (by rw [ek]; decide) (by decide) (by rw [ek]; decide) (by decide) R4 k4
    by_cases c62 : z_p s1 < n ∧ b (z_p s1) = 62
    · have ec : chI b n (z_p s1) = nI 62 := (chI_eq ok (c := 62) (by decide)).mpr c62
      rw [ec, if_neg (by decide), if_neg (by decide), if_pos (by decide)]
      exact six 62 (Or.inr rfl) c62.1 c62.2
    have ne : ∀ c : Nat, c < 1000 → ¬ (z_p s1 < n ∧ b (z_p s1) = c) → chI b n (z_p s1) ≠ nI c := fun c hc h z => h ((chI_eq ok hc).mp z)
    have eo : p_op (p_kd b n s1) = 0 := op_no (fun h => ⟨fun z => c60 ⟨h, z⟩, fun z => c61 ⟨h, z⟩, fun z => c62 ⟨h, z⟩⟩)
    rw [if_neg (show ¬ chI b n (z_p s1) = (60 : Int32) from ne 60 (by decide) c60), if_neg (show ¬ chI b n (z_p s1) = (61 : Int32) from ne 61 (by decide) c61), if_neg (show ¬ chI b n (z_p s1) = (62 : Int32) from ne 62 (by decide) c62), if_pos eo, show fX12_fails N2 (0 : Int32) (nI (z_p s1)) = _ from sX12_fails R3.2.2.2.2.2.1 (k := 0) (by decide) (by omega), q_b_s, if_pos (by decide)]
    refine qW_s ⟨kk.tr (FQ.of (S := SM) (kp_i ⟨rfl, by decide⟩) SM_SVv not_SM6), rfl, ?_⟩
    simp only [y_ii, y_ia, y_il, y_ir, y_ai, y_aa, y_al, y_ar, y_li, y_la, y_ll, y_lr, y_ri, y_ra, y_rl, y_rr, and_true, true_and, and_false, false_and, and_self, if_true, if_false, Nat.reduceEqDiff, reduceCtorEq, or_false, false_or, or_true, true_or]
end COMPARE
