/-! the class's reader: values, sums, facts, tests -/
section BOUNDS
variable {b : Nat → Nat} {n i : Nat} {s s1 : PZ} {ts us : List Bool}
theorem BZ.le {j : Nat} (h : BZ n i s) (hj : j ≤ i) : BZ n j s := ⟨by have := h.1; omega, h.2⟩
theorem BZ.z (h : BZ n i s) (hn : n ≤ 400) : z_z s < 256 := by
  have h1 := h.1
  have h2 := h.2
  omega
theorem BZ.ty (h : BZ n i s) (t : TY n s s1 ts us) : BZ n i s1 := by
  obtain ⟨t1, t2, t3, t4, t5, t6, t7⟩ := t
  have h1 := h.1
  exact ⟨by omega, t2, t4⟩
theorem z_pn : z_p (p_nx b n s) = nx b n (z_p s) := rfl
theorem BZ.nx (h : BZ n i s) {k : Nat} (hp : z_p s + k ≤ nx b n (z_p s)) (hn : nx b n (z_p s) ≤ n) : BZ n (i + k) (p_nx b n s) := by
  have h1 := h.1
  have e1 := z_pn (b := b) (n := n) (s := s)
  have e2 : z_z (p_nx b n s) = z_z s := rfl
  have e3 : z_k (p_nx b n s) = z_k s := rfl
  refine ⟨?_, hn, h.2.2⟩
  rw [e1, e2, e3]
  omega
theorem BZ.em (h : BZ n (i + 2) s) (x : STP) : BZ n i (p_em x s) := by
  have h1 := h.1
  refine ⟨?_, h.2⟩
  show 2 * (z_z s + 1) + i ≤ z_p s + 2 * z_k s
  omega
theorem BZ.val (h : BZ n i s) (e : p_val b n s = .ok s1) : BZ n (i + 1) s1 := by
  obtain ⟨t, -, h2⟩ := p_val_ty (ts := []) e (Nat.zero_le _)
  obtain ⟨t1, t2, t3, t4, t5, t6, t7⟩ := t
  have h1 := h.1
  exact ⟨by omega, t2, t4⟩
theorem BZ.sum (h : BZ n i s) (e : p_sum b n s = .ok s1) : BZ n (i + 1) s1 := by
  obtain ⟨t, -, h2⟩ := p_sum_ty (ts := []) e (Nat.zero_le _)
  obtain ⟨t1, t2, t3, t4, t5, t6, t7⟩ := t
  have h1 := h.1
  exact ⟨by omega, t2, t4⟩
/-- keeps the bounds -/
def BF (n : Nat) (F : PZ → Except Nat PZ) : Prop := ∀ (i : Nat) (s s1 : PZ), F s = .ok s1 → BZ n i s → BZ n i s1
theorem FT.bf {F : PZ → Except Nat PZ} (h : FT n F) : BF n F := fun i s s1 e g => g.ty (h s s1 [] e (Nat.zero_le _)).1
end BOUNDS
section READS
variable {M : QM} {b : Nat → Nat} {n o : Nat} {H : HD} {s : PZ}
theorem kk_nx (h : p_kd b n s ≠ 31) : z_p s + 1 ≤ nx b n (z_p s) ∧ nx b n (z_p s) ≤ n := by
  have := nx_b (b := b) (p_kd_on h)
  omega
theorem sX5_readValue (h : R1 M b n o H s) (ho : 10 ≤ o) (hb : tp_ok n b) (hz : BZ n 0 s) (h0 : 0 < h_n H) (h14 : h_n H ≤ 14) : qW (fX5_readValue M) (fun v N => PR1 M b n o H (p_val b n s) v N) := by
  have hn := hb.1
  have hk := kd_lt hb.2 (z_p s)
  have ek : p_kd b n s = kd b n (z_p s) := rfl
  have wf := sX5_wordFrom h.1 hb.2 (lo := 18) (hi := 28) (by decide) (by decide)
  unfold fX5_readValue p_val
  rw [show fX5_wordFrom M (18 : Int32) (28 : Int32) = some (if 18 ≤ kd b n (z_p s) ∧ kd b n (z_p s) < 28 then nI (kd b n (z_p s) - 18) else -nI 1, M) from wf, q_b_s]
  have b35 : ∀ (x1 : Int32) (x : STP) (v : Int32), p_kd b n s ≠ 31 → nb b n (z_p s) = v → v ≠ -nI 1 → (0 ≤ x1 → nI 10000 + x1 = z_1 x) → (¬ 0 ≤ x1 → v = z_1 x) → qW (fX5_readValue_b35 M x1) (fun v N => PR1 M b n o H (x_b (p_mk s) (fun s1 => .ok (p_em x (p_nx b n s1)))) v N) := fun x1 x v h31 ev hv hx1 hx2 => by
    have g := kk_nx h31
    unfold fX5_readValue_b35
    rw [h.1.number, q_b_s, ev, if_pos (show v ≠ (-1 : Int32) from hv)]
    obtain ⟨r, N, e, kN, gN⟩ := sX5_takesPart h ho hn (p_kd_on h31) hz.2.2
    rw [e, q_b_s]
    unfold p_mk at gN ⊢
    by_cases c : z_k s < 50
    · rw [if_pos c] at gN ⊢
      obtain ⟨rfl, R⟩ := gN
      have hz2 : z_z (p_nx b n (z_p s, z_k s + 1, z_z s, z_S s)) < 256 := hz.z hn
      obtain ⟨N2, e2, R2, k2⟩ := sX2_addStep R ho hz2 h0 h14 x
      rw [if_pos (by decide), R.2.2.1]
      by_cases c2 : 0 ≤ x1
      · rw [if_pos c2]
        unfold fX5_readValue_b84
        rw [show (10000 : Int32) + x1 = z_1 x from hx1 c2, e2, q_bv_s]
        exact qW_s ⟨kN.tr k2, rfl, R2⟩
      · rw [if_neg c2]
        unfold fX5_readValue_b84
        rw [hx2 c2, e2, q_bv_s]
        exact qW_s ⟨kN.tr k2, rfl, R2⟩
    · rw [if_neg c] at gN ⊢
      obtain ⟨rfl, g2⟩ := gN
      rw [if_neg (by decide)]
      exact qW_s ⟨kN, rfl, g2⟩
  by_cases c1 : 18 ≤ p_kd b n s ∧ p_kd b n s < 28
  · have c1' : 18 ≤ kd b n (z_p s) ∧ kd b n (z_p s) < 28 := c1
    rw [if_pos c1, if_pos c1', if_pos (show (0 : Int32) ≤ nI (kd b n (z_p s) - 18) from nI_le (Nat.zero_le _) (by omega))]
    have ew := (kd_w (b := b) (n := n) (p := z_p s) (w := kd b n (z_p s)) (by omega)).mp rfl
    refine b35 _ (1, p_kd b n s - 18) (nI 0) (by omega) ?_ (by decide) (fun _ => ?_) (fun z => absurd (show (0 : Int32) ≤ nI (kd b n (z_p s) - 18) from nI_le (Nat.zero_le _) (by omega)) z)
    · unfold nb
      rw [if_neg (by omega), if_pos ew.2.1]
    · rw [nI_add]
      rfl
  · have c1' : ¬ (18 ≤ kd b n (z_p s) ∧ kd b n (z_p s) < 28) := c1
    rw [if_neg c1, if_neg c1', if_neg (show ¬ (0 : Int32) ≤ -nI 1 by decide), h.1.kind, q_b_s]
    by_cases c2 : p_kd b n s = 30
    · have c2' : kd b n (z_p s) = 30 := c2
      have hp := p_kd_on (b := b) (n := n) (s := s) (by omega)
      have hd : isL (b (z_p s)) = false ∧ isD (b (z_p s)) = true := by
        unfold kd at c2'
        rw [if_neg (by omega)] at c2'
        by_cases q : isL (b (z_p s)) = true
        · rw [if_pos q] at c2'
          rcases wi_28 (wl b n (z_p s)) with z | z <;> omega
        · rw [if_neg q] at c2'
          refine ⟨Bool.eq_false_iff.mpr q, ?_⟩
          by_cases q2 : isD (b (z_p s)) = true
          · exact q2
          · rw [if_neg q2] at c2'
            have := sgn_b (c := b (z_p s)) (d := if z_p s + 1 < n then b (z_p s + 1) else 0) (hb.2 _ hp)
            omega
      have enb : nb b n (z_p s) = if de b n (z_p s) - z_p s ≤ 4 then nI (nv b n (z_p s)) else -nI 1 := by
        unfold nb
        rw [if_neg (by omega), if_neg (by rw [hd.1]; decide), if_pos hd.2]
      rw [if_pos c2, if_pos (show nI (kd b n (z_p s)) = (30 : Int32) by rw [c2']; rfl)]
      by_cases c3 : de b n (z_p s) - z_p s ≤ 4
      · have hv := nv_b (b := b) (n := n) (p := z_p s) (by omega) c3
        rw [if_pos c3] at enb ⊢
        exact b35 _ (0, nv b n (z_p s)) _ (by omega) enb (fun z => by
          have := m1_neg (k := nv b n (z_p s)) (by omega)
          rw [z] at this
          exact absurd this Int32.lt_irrefl) (fun z => absurd z (by decide)) (fun _ => rfl)
      · rw [if_neg c3] at enb ⊢
        unfold fX5_readValue_b35
        rw [h.1.number, q_b_s, enb, if_neg (by decide)]
        obtain ⟨v, N, e, rfl, g⟩ := sX5_fail h hn 1 (by decide) (r := .error (fl 1 (z_p s))) rfl
        rw [show fX5_fail M (1 : Int32) = some (nI 0, N) from e, q_b_s, if_pos (by decide)]
        exact qW_s g
    · have c2' : kd b n (z_p s) ≠ 30 := c2
      rw [if_neg c2, if_neg (show ¬ nI (kd b n (z_p s)) = (30 : Int32) from fun z => c2' ((nI_eq (by omega) (by decide)).mp z))]
      obtain ⟨v, N, e, rfl, g⟩ := sX5_fail h hn 0 (by decide) (r := .error (fl 0 (z_p s))) rfl
      rw [show fX5_fail M (0 : Int32) = some (nI 0, N) from e, q_b_s, if_pos (by decide)]
      exact qW_s g
theorem sX5_readSum_b11 (ho : 10 ≤ o) (hb : tp_ok n b) (h0 : 0 < h_n H) (h14 : h_n H ≤ 14) : ∀ (d c q : Nat) (M : QM) (s : PZ), c + d = 400 → d < q → R1 M b n o H s → BZ n 1 s → qW (fX5_readSum_b11 q M (nI c)) (fun v N => PR1 M b n o H (p_sumL b n d s) v N) := by
  have hn := hb.1
  intro d
  induction d with
  | zero =>
    intro c q M s hc hq R hz
    obtain ⟨q, rfl⟩ : ∃ p, q = p + 1 := ⟨q - 1, by omega⟩
    rw [fX5_readSum_b11]
    simp (disch := omega) only [y_lit, y_lt_T, y_lt_F, y_le_T, y_le_F, y_eq_T, y_eq_F, y_in_T, y_cl, ↓reduceIte, y_bs, y_bvs, y_os, y_on, y_t, ne_eq, not_true_eq_false, not_false_eq_true, pk_mul, nI_add]
    exact qW_s ⟨kp.rf, rfl, R⟩
  | succ d ih =>
    intro c q M s hc hq R hz
    obtain ⟨q, rfl⟩ : ∃ p, q = p + 1 := ⟨q - 1, by omega⟩
    have hk := kd_lt hb.2 (z_p s)
    have step : ∀ (N1 : QM) (r6 : Int32) (op : Nat) (st : Int32), p_kd b n s ≠ 31 → kp (SR o) M N1 → R1 N1 b n o H (p_nx b n s) → (op = 2 ∨ op = 3) → (if r6 = (0 : Int32) then (20001 : Int32) else (20000 : Int32)) = z_1 (op, 0) → qW (fX5_readSum_b42 (fun M x1 => fX5_readSum_b11 q M x1) N1 (nI c) r6) (fun v N => PR1 M b n o H (x_b (p_val b n (p_nx b n s)) (fun s1 => p_sumL b n d (p_em (op, 0) s1))) v N) := fun N1 r6 op st h31 k1 R1' hop hst => by
      have g := kk_nx h31
      have hz1 := hz.nx g.1 g.2
      obtain ⟨r, N2, e2, k2, g2⟩ := sX5_readValue R1' ho hb (hz1.le (Nat.zero_le _)) h0 h14
      unfold fX5_readSum_b42
      rw [e2, q_b_s]
      cases hv : p_val b n (p_nx b n s) with
      | error e =>
        rw [hv] at g2
        obtain ⟨rfl, g3⟩ := g2
        rw [if_neg (by decide)]
        exact qW_s ⟨k1.tr k2, rfl, g3⟩
      | ok s2 =>
        rw [hv] at g2
        obtain ⟨rfl, R2⟩ := g2
        have hz2 := hz1.val hv
        obtain ⟨N3, e3, R3, k3⟩ := sX2_addStep R2 ho (hz2.z hn) h0 h14 (op, 0)
        obtain ⟨r4, N4, e4, g4⟩ := ih (c + 1) q N3 (p_em (op, 0) s2) (by omega) (by omega) R3 (hz2.em _)
        have nx : fX5_readSum_b68 (fun M x1 => fX5_readSum_b11 q M x1) N2 (nI c) (z_1 (op, 0)) o = some (r4, N4) := by
          unfold fX5_readSum_b68
          rw [e3, q_bv_s]
          simp (disch := omega) only [y_lit, y_lt_T, y_lt_F, y_le_T, y_le_F, y_eq_T, y_eq_F, y_in_T, y_cl, ↓reduceIte, y_bs, y_bvs, y_os, y_on, y_t, ne_eq, not_true_eq_false, not_false_eq_true, pk_mul, nI_add]
          exact e4
        rw [if_pos (by decide), R2.2.2.1]
        refine ⟨r4, N4, ?_, ((k1.tr k2).tr k3).tr g4.1, g4.2⟩
        rw [← nx, ← hst]
        by_cases c6 : r6 = 0
        · rw [if_pos c6, if_pos c6]
        · rw [if_neg c6, if_neg c6]
    rw [fX5_readSum_b11, if_neg (show ¬ (400 : Int32) ≤ nI c from (show ¬ nI 400 ≤ nI c from nI_ge (by omega) (by omega)))]
    unfold p_sumL
    rcases sX5_takes R ho hb.2 (k := 299) (by decide) (by decide) with ⟨c1, N1, e1, R1', k1⟩ | ⟨c1, e1⟩
    · rw [if_pos c1, show fX5_takes M (299 : Int32) = some (nI 1, N1) from e1, q_b_s, if_pos (by decide)]
      exact step N1 (nI 1) 2 0 (by omega) k1 R1' (Or.inl rfl) (by decide)
    · rw [if_neg c1, show fX5_takes M (299 : Int32) = some (nI 0, M) from e1, q_b_s, if_neg (by decide)]
      rcases sX5_takes R ho hb.2 (k := 301) (by decide) (by decide) with ⟨c2, N1, e2, R1', k1⟩ | ⟨c2, e2⟩
      · rw [if_pos c2, show fX5_takes M (301 : Int32) = some (nI 1, N1) from e2, q_b_s, if_pos (by decide)]
        exact step N1 (nI 0) 3 0 (by omega) k1 R1' (Or.inr rfl) (by decide)
      · rw [if_neg c2, show fX5_takes M (301 : Int32) = some (nI 0, M) from e2, q_b_s, if_neg (by decide)]
        exact qW_s ⟨kp.rf, rfl, R⟩
theorem sX5_readSum (h : R1 M b n o H s) (ho : 10 ≤ o) (hb : tp_ok n b) (hz : BZ n 0 s) (h0 : 0 < h_n H) (h14 : h_n H ≤ 14) : qW (fX5_readSum M) (fun v N => PR1 M b n o H (p_sum b n s) v N) := by
  obtain ⟨r, N, e, k1, g⟩ := sX5_readValue h ho hb hz h0 h14
  unfold fX5_readSum p_sum
  rw [e, q_b_s]
  cases hv : p_val b n s with
  | error f =>
    rw [hv] at g
    obtain ⟨rfl, g⟩ := g
    rw [if_neg (by decide)]
    exact qW_s ⟨k1, rfl, g⟩
  | ok s1 =>
    rw [hv] at g
    obtain ⟨rfl, R⟩ := g
    rw [if_pos (by decide), nI0]
    obtain ⟨r2, N2, e2, g2⟩ := sX5_readSum_b11 ho hb h0 h14 400 0 q_F N s1 (by decide) (q_Fn (by decide)) R (hz.val hv)
    exact ⟨r2, N2, e2, PR1.tr k1 g2⟩
/-- the sign of a comparison -/
theorem sX5_comparisonOf (M : QM) {k : Nat} (hk : k < 1000) : fX5_comparisonOf M (nI k) = some (if p_op k = 0 then -nI 1 else z_1 (p_op k, 0), M) := by
  unfold fX5_comparisonOf p_op
  by_cases c1 : k = 316
  · subst c1
    rfl
  by_cases c2 : k = 317
  · subst c2
    rfl
  by_cases c3 : k = 318
  · subst c3
    rfl
  by_cases c4 : k = 572
  · subst c4
    rfl
  by_cases c5 : k = 574
  · subst c5
    rfl
  simp (disch := omega) only [y_lit, y_lt_T, y_lt_F, y_le_T, y_le_F, y_eq_T, y_eq_F, y_in_T, y_cl, ↓reduceIte, y_bs, y_bvs, y_os, y_on, y_t, ne_eq, not_true_eq_false, not_false_eq_true, pk_mul, nI_add, c1, c2, c3, c4, c5, if_false, if_true]
theorem sX5_cmp (h : R1 M b n o H s) (ho : 10 ≤ o) (hb : tp_ok n b) (hz : BZ n 0 s) (h0 : 0 < h_n H) (h14 : h_n H ≤ 14) {rc : QM → Int32 → Option (Int32 × QM)} {x1 x2 : Int32} (hx2 : x2 ≠ 17) : qW (fX5_readFact_b24 rc M x1 x2 0) (fun v N => PR1 M b n o H (p_cmp b n s) v N) := by
  have hn := hb.1
  obtain ⟨r, N, e, k1, g⟩ := sX5_readSum h ho hb hz h0 h14
  unfold fX5_readFact_b24 p_cmp
  rw [if_neg (by decide), if_neg hx2, e, q_b_s]
  cases hv : p_sum b n s with
  | error f =>
    rw [hv] at g
    obtain ⟨rfl, g⟩ := g
    rw [if_neg (by decide)]
    exact qW_s ⟨k1, rfl, g⟩
  | ok s1 =>
    rw [hv] at g
    obtain ⟨rfl, R⟩ := g
    have hz1 := hz.sum hv
    have hk := kd_lt hb.2 (z_p s1)
    have hop := p_op_b (p_kd b n s1)
    rw [if_pos (by decide), R.1.kind, q_b_s, sX5_comparisonOf N (by omega), q_b_s]
    show qW _ (fun v N => PR1 M b n o H (if p_op (p_kd b n s1) = 0 then .error (fl 0 (z_p s1)) else x_b (p_mk s1) (fun s2 => x_b (p_sum b n (p_nx b n s2)) (fun s3 => .ok (p_em (p_op (p_kd b n s1), 0) s3)))) v N)
    by_cases c : p_op (p_kd b n s1) = 0
    · have c' : p_op (kd b n (z_p s1)) = 0 := c
      rw [if_pos c, if_pos c', if_neg (by decide)]
      obtain ⟨v, N2, e2, rfl, g2⟩ := sX5_fail R hn 0 (by decide) (r := .error (fl 0 (z_p s1))) rfl
      rw [show fX5_fail N (0 : Int32) = some (nI 0, N2) from e2, q_b_s, if_pos (by decide)]
      exact qW_s (PR1.tr k1 g2)
    · have c' : ¬ p_op (kd b n (z_p s1)) = 0 := c
      have h31 : p_kd b n s1 ≠ 31 := fun z => c (by rw [z]; rfl)
      have g1 := kk_nx h31
      have ez : z_1 (p_op (p_kd b n s1), 0) = nI (20000 + (p_op (p_kd b n s1) - 2)) := by
        unfold z_1
        rw [if_neg (show ¬ p_op (p_kd b n s1) = 0 by omega), if_neg (show ¬ p_op (p_kd b n s1) = 1 by omega)]
      rw [if_neg c, if_neg c', if_pos (show (0 : Int32) ≤ z_1 (p_op (kd b n (z_p s1)), 0) by
        rw [show z_1 (p_op (kd b n (z_p s1)), 0) = nI (20000 + (p_op (p_kd b n s1) - 2)) from ez]
        exact nI_le (Nat.zero_le _) (by omega))]
      obtain ⟨r2, N2, e2, k2, g2⟩ := sX5_takesPart R ho hn (p_kd_on h31) hz1.2.2
      rw [e2, q_b_s]
      unfold p_mk at g2 ⊢
      by_cases c5 : z_k s1 < 50
      · rw [if_pos c5] at g2 ⊢
        obtain ⟨rfl, R2⟩ := g2
        rw [if_neg (by decide)]
        have hz2 : BZ n 4 (p_nx b n (z_p s1, z_k s1 + 1, z_z s1, z_S s1)) := by
          have q1 := hz1.1
          refine ⟨?_, g1.2, c5⟩
          show 2 * z_z s1 + 4 ≤ nx b n (z_p s1) + 2 * (z_k s1 + 1)
          omega
        obtain ⟨r3, N3, e3, k3, g3⟩ := sX5_readSum R2 ho hb (hz2.le (Nat.zero_le _)) h0 h14
        rw [e3, q_b_s]
        show qW _ (fun v N => PR1 M b n o H (x_b (p_sum b n (p_nx b n (z_p s1, z_k s1 + 1, z_z s1, z_S s1))) (fun s3 => .ok (p_em (p_op (p_kd b n s1), 0) s3))) v N)
        cases hv3 : p_sum b n (p_nx b n (z_p s1, z_k s1 + 1, z_z s1, z_S s1)) with
        | error f =>
          rw [hv3] at g3
          obtain ⟨rfl, g3⟩ := g3
          rw [if_neg (by decide)]
          exact qW_s ⟨(k1.tr k2).tr k3, rfl, g3⟩
        | ok s3 =>
          rw [hv3] at g3
          obtain ⟨rfl, R3⟩ := g3
          have hz3 := hz2.sum hv3
          obtain ⟨N4, e4, R4, k4⟩ := sX2_addStep R3 ho (hz3.z hn) h0 h14 (p_op (p_kd b n s1), 0)
          rw [if_pos (by decide), R3.2.2.1, show fX2_addStep N3 o (z_1 (p_op (kd b n (z_p s1)), 0)) = some N4 from e4, q_bv_s]
          exact qW_s ⟨((k1.tr k2).tr k3).tr k4, rfl, R4⟩
      · rw [if_neg c5] at g2 ⊢
        obtain ⟨rfl, g2⟩ := g2
        rw [if_pos (by decide)]
        exact qW_s ⟨k1.tr k2, rfl, g2⟩
/-- a reading call and its parser -/
def RK (b : Nat → Nat) (n o : Nat) (H : HD) (rc : QM → Option (Int32 × QM)) (F : PZ → Except Nat PZ) : Prop := BF n F ∧ ∀ (M : QM) (s : PZ), R1 M b n o H s → BZ n 0 s → qW (rc M) (fun v N => PR1 M b n o H (F s) v N)
theorem sX5_readPart (ho : 10 ≤ o) (hb : tp_ok n b) (h0 : 0 < h_n H) (h14 : h_n H ≤ 14) {rc : QM → Int32 → Option (Int32 × QM)} {x : Int32} {F : PZ → Except Nat PZ} (hF : RK b n o H (fun M => rc M x) F) (hT : FT n F) : RK b n o H (fun M => fX5_readPart rc M x) (p_jn b n 16 10 F) := by
  have hn := hb.1
  have loop : ∀ (d c q : Nat) (M : QM) (s : PZ), c + d = 400 → d < q → R1 M b n o H s → BZ n 0 s → qW (fX5_readPart_b12 rc q M x (nI c)) (fun v N => PR1 M b n o H (p_jnL b n 16 10 F d s) v N) := by
    intro d
    induction d with
    | zero =>
      intro c q M s hc hq R hz
      obtain ⟨q, rfl⟩ : ∃ p, q = p + 1 := ⟨q - 1, by omega⟩
      rw [fX5_readPart_b12]
      simp (disch := omega) only [y_lit, y_lt_T, y_lt_F, y_le_T, y_le_F, y_eq_T, y_eq_F, y_in_T, y_cl, ↓reduceIte, y_bs, y_bvs, y_os, y_on, y_t, ne_eq, not_true_eq_false, not_false_eq_true, pk_mul, nI_add]
      exact qW_s ⟨kp.rf, rfl, R⟩
    | succ d ih =>
      intro c q M s hc hq R hz
      obtain ⟨q, rfl⟩ : ∃ p, q = p + 1 := ⟨q - 1, by omega⟩
      rw [fX5_readPart_b12, if_neg (show ¬ (400 : Int32) ≤ nI c from (show ¬ nI 400 ≤ nI c from nI_ge (by omega) (by omega)))]
      unfold p_jnL
      rcases sX5_takes R ho hb.2 (k := 16) (by decide) (by decide) with ⟨c1, N1, e1, R1', k1⟩ | ⟨c1, e1⟩
      · rw [if_pos c1, show fX5_takes M (16 : Int32) = some (nI 1, N1) from e1, q_b_s, if_neg (by decide)]
        have g := kk_nx (b := b) (n := n) (s := s) (by omega)
        have len := nx_len (b := b) (n := n) (p := z_p s) (w := 16) (by decide) c1
        have hz1 := hz.nx (b := b) (k := 3) len g.2
        obtain ⟨r2, N2, e2, k2, g2⟩ := hF.2 N1 _ R1' (hz1.le (Nat.zero_le _))
        rw [show rc N1 x = some (r2, N2) from e2, q_b_s]
        cases hv : F (p_nx b n s) with
        | error f =>
          rw [hv] at g2
          obtain ⟨rfl, g2⟩ := g2
          rw [if_neg (by decide)]
          exact qW_s ⟨k1.tr k2, rfl, g2⟩
        | ok s2 =>
          rw [hv] at g2
          obtain ⟨rfl, R2⟩ := g2
          have hz2 := hF.1 _ _ _ hv hz1
          obtain ⟨N3, e3, R3, k3⟩ := sX2_addStep R2 ho (hz2.z hn) h0 h14 (10, 0)
          obtain ⟨r4, N4, e4, g4⟩ := ih (c + 1) q N3 (p_em (10, 0) s2) (by omega) (by omega) R3 (BZ.le (BZ.em (i := 1) hz2 _) (Nat.zero_le _))
          rw [if_pos (by decide), R2.2.2.1, show fX2_addStep N2 o (20008 : Int32) = some N3 from e3, q_bv_s]
          refine ⟨r4, N4, ?_, ((k1.tr k2).tr k3).tr g4.1, g4.2⟩
          simp (disch := omega) only [y_lit, y_lt_T, y_lt_F, y_le_T, y_le_F, y_eq_T, y_eq_F, y_in_T, y_cl, ↓reduceIte, y_bs, y_bvs, y_os, y_on, y_t, ne_eq, not_true_eq_false, not_false_eq_true, pk_mul, nI_add]
          exact e4
      · rw [if_neg c1, show fX5_takes M (16 : Int32) = some (nI 0, M) from e1, q_b_s, if_pos (by decide)]
        exact qW_s ⟨kp.rf, rfl, R⟩
  refine ⟨(p_jn_ty (b := b) (Or.inr ⟨rfl, rfl⟩) hT).bf, fun M s R hz => ?_⟩
  obtain ⟨r, N, e, k1, g⟩ := hF.2 M s R hz
  show qW (fX5_readPart rc M x) _
  unfold fX5_readPart p_jn
  rw [show rc M x = some (r, N) from e, q_b_s]
  cases hv : F s with
  | error f =>
    rw [hv] at g
    obtain ⟨rfl, g⟩ := g
    rw [if_neg (by decide)]
    exact qW_s ⟨k1, rfl, g⟩
  | ok s1 =>
    rw [hv] at g
    obtain ⟨rfl, R2⟩ := g
    rw [if_pos (by decide), nI0]
    obtain ⟨r2, N2, e2, g2⟩ := loop 400 0 q_F N s1 (by decide) (q_Fn (by decide)) R2 (hF.1 _ _ _ hv hz)
    exact ⟨r2, N2, e2, PR1.tr k1 g2⟩
theorem sX5_readTest (ho : 10 ≤ o) (hb : tp_ok n b) (h0 : 0 < h_n H) (h14 : h_n H ≤ 14) {rc : QM → Int32 → Option (Int32 × QM)} {x : Int32} {F : PZ → Except Nat PZ} (hF0 : RK b n o H (fun M => rc M x) F) (hT0 : FT n F) : RK b n o H (fun M => fX5_readTest rc M x) (p_tst b n F) := by
  have hn := hb.1
  have hF := sX5_readPart ho hb h0 h14 hF0 hT0
  have hT := p_jn_ty (b := b) (Or.inr ⟨rfl, rfl⟩) hT0
  show RK b n o H (fun M => fX5_readTest rc M x) (p_jn b n 15 11 (p_jn b n 16 10 F))
  generalize p_jn b n 16 10 F = F2 at hF hT ⊢
  have loop : ∀ (d c q : Nat) (M : QM) (s : PZ), c + d = 400 → d < q → R1 M b n o H s → BZ n 0 s → qW (fX5_readTest_b12 rc q M x (nI c)) (fun v N => PR1 M b n o H (p_jnL b n 15 11 F2 d s) v N) := by
    intro d
    induction d with
    | zero =>
      intro c q M s hc hq R hz
      obtain ⟨q, rfl⟩ : ∃ p, q = p + 1 := ⟨q - 1, by omega⟩
      rw [fX5_readTest_b12]
      simp (disch := omega) only [y_lit, y_lt_T, y_lt_F, y_le_T, y_le_F, y_eq_T, y_eq_F, y_in_T, y_cl, ↓reduceIte, y_bs, y_bvs, y_os, y_on, y_t, ne_eq, not_true_eq_false, not_false_eq_true, pk_mul, nI_add]
      exact qW_s ⟨kp.rf, rfl, R⟩
    | succ d ih =>
      intro c q M s hc hq R hz
      obtain ⟨q, rfl⟩ : ∃ p, q = p + 1 := ⟨q - 1, by omega⟩
      rw [fX5_readTest_b12, if_neg (show ¬ (400 : Int32) ≤ nI c from (show ¬ nI 400 ≤ nI c from nI_ge (by omega) (by omega)))]
      unfold p_jnL
      rcases sX5_takes R ho hb.2 (k := 15) (by decide) (by decide) with ⟨c1, N1, e1, R1', k1⟩ | ⟨c1, e1⟩
      · rw [if_pos c1, show fX5_takes M (15 : Int32) = some (nI 1, N1) from e1, q_b_s, if_neg (by decide)]
        have g := kk_nx (b := b) (n := n) (s := s) (by omega)
        have len := nx_len (b := b) (n := n) (p := z_p s) (w := 15) (by decide) c1
        have hz1 := hz.nx (b := b) (k := 2) len g.2
        obtain ⟨r2, N2, e2, k2, g2⟩ := hF.2 N1 _ R1' (hz1.le (Nat.zero_le _))
        rw [show fX5_readPart rc N1 x = some (r2, N2) from e2, q_b_s]
        cases hv : F2 (p_nx b n s) with
        | error f =>
          rw [hv] at g2
          obtain ⟨rfl, g2⟩ := g2
          rw [if_neg (by decide)]
          exact qW_s ⟨k1.tr k2, rfl, g2⟩
        | ok s2 =>
          rw [hv] at g2
          obtain ⟨rfl, R2⟩ := g2
          have hz2 := hF.1 _ _ _ hv hz1
          obtain ⟨N3, e3, R3, k3⟩ := sX2_addStep R2 ho (hz2.z hn) h0 h14 (11, 0)
          obtain ⟨r4, N4, e4, g4⟩ := ih (c + 1) q N3 (p_em (11, 0) s2) (by omega) (by omega) R3 (BZ.em (i := 0) hz2 _)
          rw [if_pos (by decide), R2.2.2.1, show fX2_addStep N2 o (20009 : Int32) = some N3 from e3, q_bv_s]
          refine ⟨r4, N4, ?_, ((k1.tr k2).tr k3).tr g4.1, g4.2⟩
          simp (disch := omega) only [y_lit, y_lt_T, y_lt_F, y_le_T, y_le_F, y_eq_T, y_eq_F, y_in_T, y_cl, ↓reduceIte, y_bs, y_bvs, y_os, y_on, y_t, ne_eq, not_true_eq_false, not_false_eq_true, pk_mul, nI_add]
          exact e4
      · rw [if_neg c1, show fX5_takes M (15 : Int32) = some (nI 0, M) from e1, q_b_s, if_pos (by decide)]
        exact qW_s ⟨kp.rf, rfl, R⟩
  refine ⟨(p_jn_ty (b := b) (Or.inl ⟨rfl, rfl⟩) hT).bf, fun M s R hz => ?_⟩
  obtain ⟨r, N, e, k1, g⟩ := hF.2 M s R hz
  show qW (fX5_readTest rc M x) _
  unfold fX5_readTest p_jn
  rw [show fX5_readPart rc M x = some (r, N) from e, q_b_s]
  cases hv : F2 s with
  | error f =>
    rw [hv] at g
    obtain ⟨rfl, g⟩ := g
    rw [if_neg (by decide)]
    exact qW_s ⟨k1, rfl, g⟩
  | ok s1 =>
    rw [hv] at g
    obtain ⟨rfl, R2⟩ := g
    rw [if_pos (by decide), nI0]
    obtain ⟨r2, N2, e2, g2⟩ := loop 400 0 q_F N s1 (by decide) (q_Fn (by decide)) R2 (hF.1 _ _ _ hv hz)
    exact ⟨r2, N2, e2, PR1.tr k1 g2⟩
end READS
