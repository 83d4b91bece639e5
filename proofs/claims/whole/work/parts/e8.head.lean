/-! the class's heads -/
section HEADS2
variable {M : QM} {b : Nat → Nat} {n o : Nat} {H : HD} {s : PZ}
/-- a head read -/
def HR (b : Nat → Nat) (n o : Nat) (q : HZ) (N : QM) : Prop := R1 N b n o q.1 q.2.2 ∧ q_i N 2 5 = nI (if q.2.1 then 1 else 0)
theorem p_num_z {lo hi : Nat} {s1 : PZ} (h : p_num b n lo hi s = .ok s1) : p_kd b n s = 30 ∧ s1 = p_nx b n s ∧ lo ≤ nv b n (z_p s) ∧ nv b n (z_p s) ≤ hi ∧ de b n (z_p s) - z_p s ≤ 4 := by
  unfold p_num at h
  by_cases c : p_kd b n s = 30
  · rw [if_pos c] at h
    split at h
    · rename_i q
      cases h
      exact ⟨c, rfl, q.2.1, q.2.2, q.1⟩
    · cases h
  · rw [if_neg c] at h
    cases h
theorem sX5_number (R : R1 M b n o H s) {lo hi : Nat} {s1 : PZ} (h : p_num b n lo hi s = .ok s1) : nb b n (z_p s) = nI (nv b n (z_p s)) := by
  obtain ⟨h1, h2, h3, h4, h5⟩ := p_num_z h
  rw [nb_30 h1, if_pos h5]
theorem sX5_readWeight (R : R1 M b n o H s) (ho : 10 ≤ o) (hb : tp_ok n b) (hz : z_z s < 100000) (h14 : h_n H < 14) {w lo up hi : Nat} (hhi : hi < 1000) (hup : up ≤ 28) : qW (fX5_readWeight M (nI w) (if lo ≤ kd b n (z_p s) ∧ kd b n (z_p s) < up then nI (kd b n (z_p s) - lo) else -nI 1) (nI hi)) (PH o (HR b n o) M (p_wt b n H w lo up hi s)) := by
  have hn := hb.1
  have hk := kd_lt hb.2 (z_p s)
  unfold fX5_readWeight p_wt
  by_cases c : lo ≤ p_kd b n s ∧ p_kd b n s < up
  · have c' : lo ≤ kd b n (z_p s) ∧ kd b n (z_p s) < up := c
    have hp := p_kd_on (b := b) (n := n) (s := s) (by omega)
    obtain ⟨N1, e1, R2, k1⟩ := R.stp ho hp
    have e1 : p_i M 2 2 (q_i M 2 2 + (1 : Int32)) = N1 := e1
    rw [if_pos c, if_pos c', if_pos (show (0 : Int32) ≤ nI (kd b n (z_p s) - lo) from nI_le (a := 0) (by omega) (by omega)), e1, q_t, R2.1.number, q_b_s]
    obtain ⟨r, N2, e2, k2, g2⟩ := sX5_takesNumber R2 ho hb (lo := 0) (hi := hi) (by decide) hhi
    have k1 := k1.wd (T := SR o) (fun a j z => Or.inl z.1)
    rw [show fX5_takesNumber N1 (0 : Int32) (nI hi) = some (r, N2) from e2, q_b_s]
    cases hv : p_num b n 0 hi (p_nx b n s) with
    | error f =>
      rw [hv] at g2
      obtain ⟨rfl, g2⟩ := g2
      rw [if_neg (by decide)]
      exact qW_s ⟨k1.tr k2, rfl, g2⟩
    | ok s2 =>
      rw [hv] at g2
      obtain ⟨rfl, R3, g2⟩ := g2
      obtain ⟨_, es, _⟩ := p_num_z hv
      have ezz : z_z s2 = z_z s := by rw [es]; rfl
      rw [if_pos (by decide), R3.2.2.1, show nb b n (z_p (p_nx b n s)) = nI (nv b n (nx b n (z_p s))) from sX5_number R2 hv]
      obtain ⟨N3, e3, R4, k3⟩ := sX2_addClause R3 ho (by omega) h14 w (kd b n (z_p s) - lo) (nv b n (nx b n (z_p s)))
      rw [e3, q_bv_s]
      rw [ezz] at R4
      have k3 := k3.wd (T := SR o) (fun a j z => Or.inr z)
      show qW _ (PH o (HR b n o) M (.ok (p_if b n (h_c H (z_z s) w (kd b n (z_p s) - lo) (nv b n (nx b n (z_p s)))) s2)))
      unfold p_if
      have last : ∀ (N4 : QM) (s4 : PZ) (t : Bool), kp (SR o) N3 N4 → R1 N4 b n o (h_c H (z_z s) w (kd b n (z_p s) - lo) (nv b n (nx b n (z_p s)))) s4 → HR b n o (h_c H (z_z s) w (kd b n (z_p s) - lo) (nv b n (nx b n (z_p s))), t, s4) (p_i N4 2 5 (nI (if t then 1 else 0))) ∧ kp (SR o) M (p_i N4 2 5 (nI (if t then 1 else 0))) := fun N4 s4 t k4 R4' => by
        have k5 : kp (fun a j => a = 2 ∧ j = 5) N4 (p_i N4 2 5 (nI (if t then 1 else 0))) := kp_i ⟨rfl, rfl⟩
        obtain ⟨r1, r2, r3, r4, r5⟩ := R4'
        refine ⟨⟨⟨r1.kept k5 (fun j z => by omega) (by decide), (k5.i (by decide)).trans r2, (k5.r (by decide)).trans r3, r4.keptA k5 (fun j z => by omega), (k5.i (by omega)).trans r5⟩, ?_⟩, (((k1.tr k2).tr k3).tr k4).tr (k5.wd (fun a j z => Or.inl z.1))⟩
        simp only [y_ii, y_ia, y_il, y_ir, y_ai, y_aa, y_al, y_ar, y_li, y_la, y_ll, y_lr, y_ri, y_ra, y_rl, y_rr, and_true, true_and, and_false, false_and, and_self, if_true, if_false, Nat.reduceEqDiff, reduceCtorEq, or_false, false_or, or_true, true_or]
      rcases sX5_takes R4 ho hb.2 (k := 14) (by decide) (by decide) with ⟨c1, N4, e4, R5, k4⟩ | ⟨c1, e4⟩
      · rw [if_pos c1, show fX5_takes N3 (14 : Int32) = some (nI 1, N4) from e4, q_b_s, if_pos (by decide), q_t]
        obtain ⟨l1, l2⟩ := last N4 _ true k4 R5
        exact qW_s ⟨l2, rfl, l1⟩
      · rw [if_neg c1, show fX5_takes N3 (14 : Int32) = some (nI 0, N3) from e4, q_b_s, if_pos (by decide), q_t]
        obtain ⟨l1, l2⟩ := last N3 _ false kp.rf R4
        exact qW_s ⟨l2, rfl, l1⟩
  · have c' : ¬ (lo ≤ kd b n (z_p s) ∧ kd b n (z_p s) < up) := c
    rw [if_neg c, if_neg c', if_neg (by decide)]
    obtain ⟨v, N2, e2, rfl, g⟩ := sX5_fail R hn 0 (by decide) (r := .error (fl 0 (z_p s))) rfl
    rw [show fX5_fail M (0 : Int32) = some (nI 0, N2) from e2, q_b_s, if_pos (by decide)]
    exact qW_s g
theorem sX5_readMeasure (R : R1 M b n o H s) (ho : 10 ≤ o) (hb : tp_ok n b) (hz : z_z s < 100000) (h14 : h_n H < 14) (h5 : q_i M 2 5 = nI 0) {w lo hi : Nat} (hw : w = 3 ∨ w = 4 ∨ w = 5) (hlo : lo < 1000) (hhi : hi < 1000) : qW (fX5_readMeasure M (nI w) (nI lo) (nI hi)) (PH o (HR b n o) M (p_me b n H w lo hi s)) := by
  unfold fX5_readMeasure p_me
  rw [R.1.number, q_b_s]
  obtain ⟨r, N2, e2, k2, g2⟩ := sX5_takesNumber R ho hb (lo := lo) (hi := hi) hlo hhi
  rw [e2, q_b_s]
  cases hv : p_num b n lo hi s with
  | error f =>
    rw [hv] at g2
    obtain ⟨rfl, g2⟩ := g2
    rw [if_neg (by decide)]
    exact qW_s ⟨k2, rfl, g2⟩
  | ok s2 =>
    rw [hv] at g2
    obtain ⟨rfl, R3, g2⟩ := g2
    obtain ⟨_, es, _⟩ := p_num_z hv
    have ezz : z_z s2 = z_z s := by rw [es]; rfl
    rw [if_pos (by decide), R3.2.2.1, sX5_number R hv]
    obtain ⟨N3, e3, R4, k3⟩ := sX2_addClause R3 ho (by omega) h14 w 0 (nv b n (z_p s))
    rw [show fX2_addClause N2 o (nI w) (0 : Int32) (nI (nv b n (z_p s))) = some N3 from e3, q_bv_s, R4.2.2.1]
    rw [ezz] at R4
    obtain ⟨N4, e4, R5, k4⟩ := sX2_setMeasure R4 ho (v := nv b n (z_p s)) hw
    rw [e4, q_bv_s]
    refine qW_s ⟨(k2.tr (k3.wd (fun a j z => Or.inr z))).tr (k4.wd (fun a j z => Or.inr z)), rfl, R5, ?_⟩
    rw [k4.i (by omega), k3.i (by omega), g2, h5]
    rfl
theorem sX5_head2 (R : R1 M b n o H s) (ho : 10 ≤ o) (hb : tp_ok n b) (hz : z_z s < 100000) (h14 : h_n H < 14) {w : Nat} (hw : w < 6) : qW (fX5_readHead_b73 M (nI w) (nI (if w = 2 then 1 else 0))) (PH o (HR b n o) M (p_h2 b n H w s)) := by
  have hn := hb.1
  have k0 : kp (fun a j => a = 2 ∧ j = 5) M (p_i M 2 5 (nI (if w = 2 then 1 else 0))) := kp_i ⟨rfl, rfl⟩
  have e5 : q_i (p_i M 2 5 (nI (if w = 2 then 1 else 0))) 2 5 = nI (if w = 2 then 1 else 0) := by simp only [y_ii, y_ia, y_il, y_ir, y_ai, y_aa, y_al, y_ar, y_li, y_la, y_ll, y_lr, y_ri, y_ra, y_rl, y_rr, and_true, true_and, and_false, false_and, and_self, if_true, if_false, Nat.reduceEqDiff, reduceCtorEq, or_false, false_or, or_true, true_or]
  have R0 : R1 (p_i M 2 5 (nI (if w = 2 then 1 else 0))) b n o H s := by
    obtain ⟨r1, r2, r3, r4, r5⟩ := R
    exact ⟨r1.kept k0 (fun j z => by omega) (by decide), (k0.i (by decide)).trans r2, (k0.r (by decide)).trans r3, r4.keptA k0 (fun j z => by omega), (k0.i (by omega)).trans r5⟩
  have k0 := k0.wd (T := SR o) (fun a j z => Or.inl z.1)
  have hq : q_z (nI (if w = 2 then 1 else 0)) := by
    by_cases c : w = 2
    · rw [if_pos c]
      decide
    · rw [if_neg c]
      decide
  unfold fX5_readHead_b73 p_h2
  rw [if_pos hq, q_t]
  generalize p_i M 2 5 (nI (if w = 2 then 1 else 0)) = N at *
  have pass : ∀ {X : Option (Int32 × QM)} {r : Except Nat HZ}, qW X (PH o (HR b n o) N r) → qW (q_b X fun v N => if q_z v then some (v, N) else none) (PH o (HR b n o) M r) := fun {X} {r} h => by
    obtain ⟨v, N2, e, k, g⟩ := h
    rw [e, q_b_s]
    cases r with
    | error f =>
      obtain ⟨rfl, g⟩ := g
      rw [if_pos (by decide)]
      exact qW_s ⟨k0.tr k, rfl, g⟩
    | ok q =>
      obtain ⟨rfl, g⟩ := g
      rw [if_pos (by decide)]
      exact qW_s ⟨k0.tr k, rfl, g⟩
  have hw6 : w = 0 ∨ w = 1 ∨ w = 2 ∨ w = 3 ∨ w = 4 ∨ w = 5 := by omega
  rcases hw6 with e | e | e | e | e | e <;> subst e
  · rw [if_pos (show nI 0 = (0 : Int32) from rfl), if_pos rfl, show fX5_wordFrom N (6 : Int32) (10 : Int32) = _ from sX5_wordFrom R0.1 hb.2 (lo := 6) (hi := 10) (by decide) (by decide), q_b_s]
    exact pass (sX5_readWeight R0 ho hb hz h14 (w := 0) (hi := 9) (by decide) (by decide))
  · rw [if_neg (show ¬ nI 1 = (0 : Int32) by decide), if_pos (show nI 1 = (1 : Int32) from rfl), if_neg (by decide), if_pos rfl, show fX5_wordFrom N (10 : Int32) (14 : Int32) = _ from sX5_wordFrom R0.1 hb.2 (lo := 10) (hi := 14) (by decide) (by decide), q_b_s]
    exact pass (sX5_readWeight R0 ho hb hz h14 (w := 1) (hi := 15) (by decide) (by decide))
  · rw [if_neg (show ¬ nI 2 = (0 : Int32) by decide), if_neg (show ¬ nI 2 = (1 : Int32) by decide), if_pos (show nI 2 = (2 : Int32) from rfl), if_neg (by decide), if_neg (by decide), if_pos rfl, R0.2.2.1]
    obtain ⟨N3, e3, R4, k3⟩ := sX2_addClause R0 ho hz h14 2 0 0
    rw [show fX2_addClause N o (nI 2) (0 : Int32) (0 : Int32) = some N3 from e3, q_bv_s]
    exact qW_s ⟨k0.tr (k3.wd (fun a j z => Or.inr z)), rfl, R4, (k3.i (by omega)).trans e5⟩
  · rw [if_neg (show ¬ nI 3 = (0 : Int32) by decide), if_neg (show ¬ nI 3 = (1 : Int32) by decide), if_neg (show ¬ nI 3 = (2 : Int32) by decide), if_pos (show nI 3 = (3 : Int32) from rfl), if_neg (by decide), if_neg (by decide), if_neg (by decide), if_pos rfl]
    exact pass (sX5_readMeasure R0 ho hb hz h14 e5 (w := 3) (lo := 0) (hi := 15) (by decide) (by decide) (by decide))
  · rw [if_neg (show ¬ nI 4 = (0 : Int32) by decide), if_neg (show ¬ nI 4 = (1 : Int32) by decide), if_neg (show ¬ nI 4 = (2 : Int32) by decide), if_neg (show ¬ nI 4 = (3 : Int32) by decide), if_pos (show nI 4 = (4 : Int32) from rfl), if_neg (by decide), if_neg (by decide), if_neg (by decide), if_neg (by decide), if_pos rfl]
    exact pass (sX5_readMeasure R0 ho hb hz h14 e5 (w := 4) (lo := 1) (hi := 8) (by decide) (by decide) (by decide))
  · rw [if_neg (show ¬ nI 5 = (0 : Int32) by decide), if_neg (show ¬ nI 5 = (1 : Int32) by decide), if_neg (show ¬ nI 5 = (2 : Int32) by decide), if_neg (show ¬ nI 5 = (3 : Int32) by decide), if_neg (show ¬ nI 5 = (4 : Int32) by decide), if_neg (by decide), if_neg (by decide), if_neg (by decide), if_neg (by decide), if_neg (by decide)]
    exact pass (sX5_readMeasure R0 ho hb hz h14 e5 (w := 5) (lo := 0) (hi := 15) (by decide) (by decide) (by decide))
theorem sX5_readHead (R : R1 M b n o H s) (ho : 10 ≤ o) (hb : tp_ok n b) (hz : z_z s < 100000) (h14 : h_n H ≤ 14) (hs6 : ∀ i, i < h_n H → (H.2.2 i).1 < 6) : qW (fX5_readHead M) (PH o (HR b n o) M (p_hd b n H s)) := by
  have hn := hb.1
  have hk := kd_lt hb.2 (z_p s)
  have fails4 : ∀ {r : Except Nat HZ}, r = .error (fl 4 (z_p s)) → qW (fX5_readHead_b46 M) (PH o (HR b n o) M r) := fun {r} hr => by
    subst hr
    obtain ⟨v, N2, e2, rfl, g⟩ := sX5_fail R hn 4 (by decide) (r := .error (fl 4 (z_p s))) rfl
    unfold fX5_readHead_b46
    rw [show fX5_fail M (4 : Int32) = some (nI 0, N2) from e2, q_b_s, if_pos (by decide)]
    exact qW_s g
  unfold fX5_readHead p_hd
  rw [show fX5_wordFrom M (0 : Int32) (6 : Int32) = _ from sX5_wordFrom R.1 hb.2 (lo := 0) (hi := 6) (by decide) (by decide), q_b_s]
  by_cases c : p_kd b n s < 6
  · have c' : kd b n (z_p s) < 6 := c
    have hp := p_kd_on (b := b) (n := n) (s := s) (by omega)
    obtain ⟨N1, e1, R2, k1⟩ := R.stp ho hp
    have e1 : p_i M 2 2 (q_i M 2 2 + (1 : Int32)) = N1 := e1
    have k1 := k1.wd (T := SR o) (fun a j z => Or.inl z.1)
    have e8 : q_i M o 8 = nI (h_n H) := R.2.2.2.1.1
    rw [if_pos c, if_pos (show 0 ≤ kd b n (z_p s) ∧ kd b n (z_p s) < 6 from ⟨Nat.zero_le _, c'⟩), Nat.sub_zero, if_pos (show (0 : Int32) ≤ nI (kd b n (z_p s)) from nI_le (a := 0) (by omega) (by omega)), R.2.2.1, e8]
    by_cases c14 : 14 ≤ h_n H
    · rw [if_pos c14, if_pos (show (14 : Int32) ≤ nI (h_n H) from nI_le (a := 14) c14 (by omega))]
      exact fails4 rfl
    · rw [if_neg c14, if_neg (show ¬ (14 : Int32) ≤ nI (h_n H) from (show ¬ nI 14 ≤ nI (h_n H) from nI_ge (by omega) (by omega)))]
      have go : qW (fX5_readHead_b52 M (nI (kd b n (z_p s)))) (PH o (HR b n o) M (p_h2 b n H (p_kd b n s) (p_nx b n s))) := by
        obtain ⟨v, N2, e2, k2, g2⟩ := sX5_head2 R2 ho hb hz (by omega) c'
        have e2 : (if nI (kd b n (z_p s)) ≠ (2 : Int32) then fX5_readHead_b73 N1 (nI (kd b n (z_p s))) (0 : Int32) else fX5_readHead_b73 N1 (nI (kd b n (z_p s))) (1 : Int32)) = some (v, N2) := by
          by_cases q : kd b n (z_p s) = 2
          · rw [if_pos q] at e2
            rw [if_neg (by rw [q]; decide)]
            exact e2
          · rw [if_neg q] at e2
            rw [if_pos (show nI (kd b n (z_p s)) ≠ (2 : Int32) from fun z => q ((nI_eq (by omega) (by decide)).mp (show nI (kd b n (z_p s)) = nI 2 from z)))]
            exact e2
        unfold fX5_readHead_b52
        rw [e1, q_t, e2]
        exact qW_s ⟨k1.tr k2, g2⟩
      by_cases c3 : kd b n (z_p s) < 3
      · rw [if_neg (show ¬ (3 ≤ p_kd b n s ∧ hs H (p_kd b n s) = true) from fun z => by have := z.1; have e : p_kd b n s = kd b n (z_p s) := rfl; omega), if_pos (show nI (kd b n (z_p s)) < (3 : Int32) from nI_lt (b := 3) c3 (by decide))]
        exact go
      · rw [if_neg (show ¬ nI (kd b n (z_p s)) < (3 : Int32) from nI_nlt (b := 3) (by omega) (by omega)), sX2_has R.2.2.2.1 h14 (by omega) hs6, q_b_s]
        cases ch : hs H (kd b n (z_p s)) with
        | true =>
          rw [if_pos (show 3 ≤ p_kd b n s ∧ hs H (p_kd b n s) = true from ⟨(show 3 ≤ p_kd b n s from Nat.le_of_not_lt c3), ch⟩), if_neg (by decide)]
          exact fails4 rfl
        | false =>
          rw [if_neg (show ¬ (3 ≤ p_kd b n s ∧ hs H (p_kd b n s) = true) from fun z => by have := z.2; have e : p_kd b n s = kd b n (z_p s) := rfl; rw [e, ch] at this; cases this), if_pos (by decide)]
          exact go
  · have c' : ¬ kd b n (z_p s) < 6 := c
    rw [if_neg c, if_neg (show ¬ (0 ≤ kd b n (z_p s) ∧ kd b n (z_p s) < 6) from fun z => c' z.2), if_neg (by decide)]
    obtain ⟨v, N2, e2, rfl, g⟩ := sX5_fail R hn 0 (by decide) (r := .error (fl 0 (z_p s))) rfl
    rw [show fX5_fail M (0 : Int32) = some (nI 0, N2) from e2, q_b_s, if_pos (by decide)]
    exact qW_s g
end HEADS2
