/-! the class reads a code -/
section READ1
variable {M : QM} {b : Nat → Nat} {n o : Nat} {H H1 : HD} {s s1 s2 : PZ}
theorem mk_s (i : Nat) : c_s (mkC H s) i = (H.2.2 i).1 := by
  show (hf H (z_z s) i).1 = _
  unfold hf
  split <;> rfl
theorem p_if_in {t : Bool} (h : p_if b n H s = (H1, t, s1)) : H1 = H ∧ (t = true ∧ s1 = p_nx b n s ∧ p_kd b n s = 14 ∨ t = false ∧ s1 = s) := by
  unfold p_if at h
  by_cases c : p_kd b n s = 14
  · rw [if_pos c] at h
    cases h
    exact ⟨rfl, Or.inl ⟨rfl, rfl, c⟩⟩
  · rw [if_neg c] at h
    cases h
    exact ⟨rfl, Or.inr ⟨rfl, rfl⟩⟩
theorem x_g_ok {α β : Type} {r : Except Nat α} {f : α → Except Nat β} {y : β} (h : x_g r f = .ok y) : ∃ x, r = .ok x ∧ f x = .ok y := by
  cases r with
  | error e => cases h
  | ok x => exact ⟨x, rfl, h⟩
theorem p_me_in {w lo hi : Nat} {t : Bool} (h : p_me b n H w lo hi s = .ok (H1, t, s1)) : p_kd b n s = 30 ∧ s1 = p_nx b n s ∧ t = false ∧ lo ≤ nv b n (z_p s) ∧ nv b n (z_p s) ≤ hi ∧ H1 = h_m (h_c H (z_z s) w 0 (nv b n (z_p s))) w (nv b n (z_p s)) := by
  obtain ⟨s2, h1, h2⟩ := x_g_ok h
  obtain ⟨g1, g2, g3, g4, g5⟩ := p_num_z h1
  cases h2
  exact ⟨g1, g2, rfl, g3, g4, rfl⟩
theorem p_wt_in {w lo up hi : Nat} {t : Bool} (h : p_wt b n H w lo up hi s = .ok (H1, t, s1)) : lo ≤ p_kd b n s ∧ p_kd b n s < up ∧ p_kd b n (p_nx b n s) = 30 ∧ nv b n (nx b n (z_p s)) ≤ hi ∧ H1 = h_c H (z_z s) w (p_kd b n s - lo) (nv b n (nx b n (z_p s))) ∧ (t = true ∧ s1 = p_nx b n (p_nx b n (p_nx b n s)) ∧ p_kd b n (p_nx b n (p_nx b n s)) = 14 ∨ t = false ∧ s1 = p_nx b n (p_nx b n s)) := by
  unfold p_wt at h
  by_cases c : lo ≤ p_kd b n s ∧ p_kd b n s < up
  · rw [if_pos c] at h
    obtain ⟨s2, h1, h2⟩ := x_g_ok h
    obtain ⟨g1, g2, g3, g4, g5⟩ := p_num_z h1
    subst g2
    obtain ⟨e1, e2⟩ := p_if_in (Except.ok.inj h2)
    exact ⟨c.1, c.2, g1, g4, e1, e2⟩
  · rw [if_neg c] at h
    cases h
/-- what a head that is read gives -/
def HI (n : Nat) (H : HD) (s : PZ) (H1 : HD) (t : Bool) (s1 : PZ) : Prop := h_n H < 14 ∧ z_p s < z_p s1 ∧ z_p s1 ≤ n ∧ z_k s1 = z_k s ∧ z_z s1 = z_z s ∧ z_S s1 = z_S s ∧ ∃ w k v, w < 6 ∧ k < 4 ∧ v < 16 ∧ (w = 2 → t = true ∧ k = 0) ∧ H1.2 = (h_c H (z_z s) w k v).2 ∧ (w < 3 ∧ H1.1 = H.1 ∨ 3 ≤ w ∧ hs H w = false ∧ H1.1 = (h_m H w v).1 ∧ (w = 4 → 0 < v ∧ v < 9))
theorem p_hd_in {t : Bool} (h : p_hd b n H s = .ok (H1, t, s1)) : HI n H s H1 t s1 := by
  unfold p_hd at h
  by_cases c : p_kd b n s < 6
  · rw [if_pos c] at h
    by_cases c14 : 14 ≤ h_n H
    · rw [if_pos c14] at h
      cases h
    · rw [if_neg c14] at h
      by_cases c3 : 3 ≤ p_kd b n s ∧ hs H (p_kd b n s) = true
      · rw [if_pos c3] at h
        cases h
      · rw [if_neg c3] at h
        have hp := p_kd_on (b := b) (n := n) (s := s) (by omega)
        have g0 := nx_b (b := b) hp
        have wt : ∀ (w lo up hi : Nat), w < 2 → up ≤ lo + 4 → up < 30 → hi < 16 → p_wt b n H w lo up hi (p_nx b n s) = .ok (H1, t, s1) → HI n H s H1 t s1 := fun w lo up hi a1 a2 a3 a4 h => by
          obtain ⟨g1, g2, g3, g4, g5, g6⟩ := p_wt_in h
          have q1 := nx_b (b := b) (p_kd_on (b := b) (n := n) (s := p_nx b n s) (by omega))
          have q1 : nx b n (z_p s) < nx b n (nx b n (z_p s)) ∧ nx b n (nx b n (z_p s)) ≤ n := q1
          have q2 := nx_b (b := b) (p_kd_on (b := b) (n := n) (s := p_nx b n (p_nx b n s)) (by omega))
          have q2 : nx b n (nx b n (z_p s)) < nx b n (nx b n (nx b n (z_p s))) ∧ nx b n (nx b n (nx b n (z_p s))) ≤ n := q2
          subst g5
          have fin : ∀ s1, (z_p s1 = nx b n (nx b n (nx b n (z_p s))) ∧ z_k s1 = z_k s ∧ z_z s1 = z_z s ∧ z_S s1 = z_S s) ∨ False → True := fun _ _ => trivial
          rcases g6 with ⟨rfl, rfl, g7⟩ | ⟨rfl, rfl⟩
          · have q3 := nx_b (b := b) (p_kd_on (b := b) (n := n) (s := p_nx b n (p_nx b n (p_nx b n s))) (by omega))
            have q3 : nx b n (nx b n (nx b n (z_p s))) < nx b n (nx b n (nx b n (nx b n (z_p s)))) ∧ nx b n (nx b n (nx b n (nx b n (z_p s)))) ≤ n := q3
            exact ⟨by omega, by show z_p s < nx b n (nx b n (nx b n (nx b n (z_p s)))); omega, q3.2, rfl, rfl, rfl, w, _, _, by omega, by omega, Nat.lt_of_le_of_lt g4 a4, fun z => by omega, rfl, Or.inl ⟨by omega, rfl⟩⟩
          · exact ⟨by omega, by show z_p s < nx b n (nx b n (nx b n (z_p s))); omega, q2.2, rfl, rfl, rfl, w, _, _, by omega, by omega, Nat.lt_of_le_of_lt g4 a4, fun z => by omega, rfl, Or.inl ⟨by omega, rfl⟩⟩
        have me : ∀ (w lo hi : Nat), p_kd b n s = w → 3 ≤ w → w < 6 → hi < 16 → (w = 4 → 0 < lo ∧ hi < 9) → p_me b n H w lo hi (p_nx b n s) = .ok (H1, t, s1) → HI n H s H1 t s1 := fun w lo hi e a1 a2 a3 a4 h => by
          obtain ⟨g1, g2, g3, g4, g5, g6⟩ := p_me_in h
          have q1 := nx_b (b := b) (p_kd_on (b := b) (n := n) (s := p_nx b n s) (by omega))
          have q1 : nx b n (z_p s) < nx b n (nx b n (z_p s)) ∧ nx b n (nx b n (z_p s)) ≤ n := q1
          subst g2 g6
          have hh : hs H w = false := by
            cases q : hs H w with
            | false => rfl
            | true => exact absurd ⟨by omega, by rw [e]; exact q⟩ c3
          have g4 : lo ≤ nv b n (nx b n (z_p s)) := g4
          have g5 : nv b n (nx b n (z_p s)) ≤ hi := g5
          exact ⟨by omega, by show z_p s < nx b n (nx b n (z_p s)); omega, q1.2, rfl, rfl, rfl, w, 0, nv b n (nx b n (z_p s)), a2, by decide, by omega, fun z => by omega, rfl, Or.inr ⟨a1, hh, rfl, fun z => by have := a4 z; omega⟩⟩
        unfold p_h2 at h
        by_cases w0 : p_kd b n s = 0
        · rw [if_pos w0] at h
          exact wt 0 6 10 9 (by decide) (by decide) (by decide) (by decide) h
        rw [if_neg w0] at h
        by_cases w1 : p_kd b n s = 1
        · rw [if_pos w1] at h
          exact wt 1 10 14 15 (by decide) (by decide) (by decide) (by decide) h
        rw [if_neg w1] at h
        by_cases w2 : p_kd b n s = 2
        · rw [if_pos w2] at h
          cases h
          exact ⟨by omega, g0.1, g0.2, rfl, rfl, rfl, 2, 0, 0, by decide, by decide, by decide, fun _ => ⟨rfl, rfl⟩, rfl, Or.inl ⟨by decide, rfl⟩⟩
        rw [if_neg w2] at h
        by_cases w3 : p_kd b n s = 3
        · rw [if_pos w3] at h
          exact me 3 0 15 w3 (by decide) (by decide) (by decide) (fun z => by omega) h
        rw [if_neg w3] at h
        by_cases w4 : p_kd b n s = 4
        · rw [if_pos w4] at h
          exact me 4 1 8 w4 (by decide) (by decide) (by decide) (fun z => by omega) h
        rw [if_neg w4] at h
        exact me 5 0 15 (by omega) (by decide) (by decide) (by decide) (fun z => by omega) h
  · rw [if_neg c] at h
    cases h
theorem HI.num {t : Bool} (h : HI n H s H1 t s1) : h_n H1 = h_n H + 1 := by
  obtain ⟨h1, h2, h3, h4, h5, h6, w, k, v, a1, a2, a3, a4, a5, a6⟩ := h
  show H1.2.1 = _
  rw [a5]
  rfl
theorem HI.bz {t : Bool} (h : HI n H s H1 t s1) {i : Nat} (g : BZ n i s) : BZ n i s1 := by
  obtain ⟨h1, h2, h3, h4, h5, h6, _⟩ := h
  obtain ⟨g1, g2, g3⟩ := g
  exact ⟨by omega, h3, by omega⟩
/-- a code read so far is well made -/
theorem HI.ok {t : Bool} (h : HI n H s H1 t s1) (hC : c_ok (mkC H s)) (g : t = false ∧ s2 = s1 ∨ t = true ∧ TY n s1 s2 [] [true]) (hz : z_z s2 ≤ 256) : c_ok (mkC H1 s2) := by
  have hn1 := h.num
  obtain ⟨h1, h2, h3, h4, h5, h6, w, k, v, a1, a2, a3, a4, a5, a6⟩ := h
  have hl : z_z s ≤ z_z s2 ∧ (∀ j, j < z_z s → z_S s2 j = z_S s j) ∧ (∀ j, z_z s ≤ j → j < z_z s2 → (z_S s2 j).2 < 10000) ∧ (z_z s = z_z s2 ∧ w ≠ 2 ∨ t_n (z_S s2) (z_z s2 - z_z s) (z_z s) [] = some [true]) := by
    rcases g with ⟨e1, rfl⟩ | ⟨e1, T⟩
    · refine ⟨by omega, fun j hj => by rw [h6], fun j x y => by omega, Or.inl ⟨by omega, fun z => ?_⟩⟩
      have := (a4 z).1
      rw [e1] at this
      cases this
    · obtain ⟨t1, t2, t3, t4, t5, t6, t7, t8, t9⟩ := T
      rw [h5] at t5 t7 t8 t9
      exact ⟨t5, fun j hj => by rw [t7 j hj, h6], t8, Or.inr t9⟩
  obtain ⟨l1, l2, l3, l4⟩ := hl
  obtain ⟨c1, c2, c3, c4, c5, c6, c7, c8, c9⟩ := hC
  have c1 : H.1.1 < 16 := c1
  have c2 : 0 < H.1.2.1 := c2
  have c3 : H.1.2.1 < 9 := c3
  have c4 : H.1.2.2 < 16 := c4
  have hm : H1.1.1 < 16 ∧ 0 < H1.1.2.1 ∧ H1.1.2.1 < 9 ∧ H1.1.2.2 < 16 := by
    rcases a6 with ⟨_, e⟩ | ⟨b1, b2, e, b3⟩
    · rw [e]
      exact ⟨c1, c2, c3, c4⟩
    · rw [e]
      unfold h_m
      by_cases w3 : w = 3
      · rw [if_pos w3]
        exact ⟨a3, c2, c3, c4⟩
      · rw [if_neg w3]
        by_cases w4 : w = 4
        · rw [if_pos w4]
          exact ⟨c1, (b3 w4).1, (b3 w4).2, c4⟩
        · rw [if_neg w4]
          exact ⟨c1, c2, c3, a3⟩
  have hcl : ∀ i, hf H1 (z_z s2) i = if i = h_n H then (w, k, v, z_z s, z_z s2) else hf H (z_z s) i := by
    intro i
    rw [← hf_c (H := H) (z := z_z s) (w := w) (k := k) (v := v) (z2 := z_z s2) i]
    unfold hf h_n
    rw [a5]
  refine ⟨hm.1, hm.2.1, hm.2.2.1, hm.2.2.2, by show h_n H1 ≤ 14; omega, hz, fun i hi => ?_, fun j hj => ?_, fun i hi => ?_⟩
  · have hi : i < h_n H1 := hi
    show (hf H1 (z_z s2) i).1 < 6 ∧ (hf H1 (z_z s2) i).2.1 < 4 ∧ (hf H1 (z_z s2) i).2.2.1 < 16 ∧ (hf H1 (z_z s2) i).2.2.2.1 ≤ (hf H1 (z_z s2) i).2.2.2.2 ∧ (hf H1 (z_z s2) i).2.2.2.2 ≤ z_z s2 ∧ ((hf H1 (z_z s2) i).2.2.2.1 = (hf H1 (z_z s2) i).2.2.2.2 ∧ (hf H1 (z_z s2) i).1 ≠ 2 ∨ (hf H1 (z_z s2) i).2.2.2.1 < (hf H1 (z_z s2) i).2.2.2.2 ∧ t_n (z_S s2) ((hf H1 (z_z s2) i).2.2.2.2 - (hf H1 (z_z s2) i).2.2.2.1) (hf H1 (z_z s2) i).2.2.2.1 [] = some [true])
    rw [hcl]
    by_cases c : i = h_n H
    · rw [if_pos c]
      refine ⟨a1, a2, a3, l1, Nat.le_refl _, ?_⟩
      rcases l4 with l4 | l4
      · exact Or.inl l4
      · refine Or.inr ⟨?_, l4⟩
        show z_z s < z_z s2
        by_cases q : z_z s = z_z s2
        · rw [q, Nat.sub_self] at l4
          cases l4
        · omega
    · rw [if_neg c]
      obtain ⟨d1, d2, d3, d4, d5, d6⟩ := c7 i (by show i < h_n H; omega)
      have d5 : (hf H (z_z s) i).2.2.2.2 ≤ z_z s := d5
      refine ⟨d1, d2, d3, d4, Nat.le_trans d5 l1, ?_⟩
      rcases d6 with d6 | ⟨d6, d7⟩
      · exact Or.inl d6
      · refine Or.inr ⟨d6, ?_⟩
        have d4 : (hf H (z_z s) i).2.2.2.1 ≤ (hf H (z_z s) i).2.2.2.2 := d4
        exact (t_n_e _ _ _ (fun j x y => l2 j (by omega))).trans d7
  · show (z_S s2 j).2 < 10000
    by_cases q : j < z_z s
    · rw [l2 j q]
      exact c8 j q
    · exact l3 j (by omega) hj
  · have hi : i < h_n H1 := hi
    show (hf H1 (z_z s2) i).1 = 2 → (hf H1 (z_z s2) i).2.1 = 0
    rw [hcl]
    by_cases c : i = h_n H
    · rw [if_pos c]
      exact fun z => (a4 z).2
    · rw [if_neg c]
      exact c9 i (by show i < h_n H; omega)
end READ1
/-- a code's text parsed -/
def p_lp (b : Nat → Nat) (n : Nat) : Nat → HD → PZ → Except Nat CD
  | 0, _, _ => .error 1
  | f + 1, H, s => x_g (p_hd b n H s) (fun q => x_g (if q.2.1 = true then p_tst b n (p_fact b n 14 0) q.2.2 else .ok q.2.2) (fun s2 => if p_kd b n s2 = 31 then .ok (mkC q.1 s2) else if p_kd b n s2 = 315 then p_lp b n f q.1 (p_nx b n s2) else .error (fl 0 (z_p s2))))
def HD0 : HD := ((1, 6, 1), 0, fun _ => (0, 0, 0, 0, 0))
def PZ0 (b : Nat → Nat) (n : Nat) : PZ := (sk b n 0, 0, 0, fun _ => (0, 0))
def p_code (b : Nat → Nat) (n : Nat) : Except Nat CD := p_lp b n 15 HD0 (PZ0 b n)
def PCd (o : Nat) (r : Except Nat CD) (v : Int32) (N : QM) : Prop := match r with
  | .ok C => v = nI 0 ∧ RC1 N o C ∧ c_ok C
  | .error e => v = nI e ∧ 0 < e ∧ e < 4000
section READ2
variable {b : Nat → Nat} {n o : Nat}
theorem sX5_read_b37 (ho : 10 ≤ o) (hb : tp_ok n b) : ∀ (f c q : Nat) (M : QM) (H : HD) (s : PZ), c + f = 15 → f < q → h_n H = c → c ≤ 14 → R1 M b n o H s → BZ n 0 s → c_ok (mkC H s) → qW (fX5_read_b37 q M (nI c)) (fun v N => kp (SR o) M N ∧ PCd o (p_lp b n f H s) v N) := by
  have hn := hb.1
  intro f
  induction f with
  | zero => intro c q M H s h1 h2 h3 h4; omega
  | succ f ih =>
    intro c q M H s h1 h2 h3 h4 R hz hC
    obtain ⟨q, rfl⟩ : ∃ p, q = p + 1 := ⟨q - 1, by omega⟩
    rw [fX5_read_b37, if_neg (show ¬ (14 : Int32) < nI c from (show ¬ nI 14 < nI c from nI_nlt (by omega) (by omega)))]
    obtain ⟨r, N1, e1, k1, g1⟩ := sX5_readHead R ho hb (by have := hz.z hn; omega) (by omega) (fun i hi => by rw [← mk_s (s := s)]; exact (hC.2.2.2.2.2.2.1 i hi).1)
    rw [e1, q_b_s]
    unfold p_lp
    cases hv : p_hd b n H s with
    | error e =>
      rw [hv] at g1
      obtain ⟨rfl, g1, g2⟩ := g1
      rw [if_pos (by decide)]
      unfold fX5_read_b65
      exact qW_s ⟨k1, g1, g2⟩
    | ok x =>
      obtain ⟨H1, t, s1⟩ := x
      rw [hv] at g1
      obtain ⟨rfl, R2, g5⟩ := g1
      have R2 : R1 N1 b n o H1 s1 := R2
      have g5 : q_i N1 2 5 = nI (if t then 1 else 0) := g5
      have I := p_hd_in hv
      have hn1 := I.num
      have h14 := I.1
      have hz1 := I.bz hz
      have after : ∀ (N : QM) (s2 : PZ), kp (SR o) M N → R1 N b n o H1 s2 → BZ n 0 s2 → c_ok (mkC H1 s2) → qW (fX5_read_b70 (fun M x3 => fX5_read_b37 q M x3) N (nI c)) (fun v N => kp (SR o) M N ∧ PCd o (if p_kd b n s2 = 31 then .ok (mkC H1 s2) else if p_kd b n s2 = 315 then p_lp b n f H1 (p_nx b n s2) else .error (fl 0 (z_p s2))) v N) := fun N s2 k R hz2 hC2 => by
        have hk := kd_lt hb.2 (z_p s2)
        unfold fX5_read_b70
        rw [R.1.kind, q_b_s]
        by_cases c1 : p_kd b n s2 = 31
        · have c' : kd b n (z_p s2) = 31 := c1
          rw [if_pos c1, c', if_neg (by decide)]
          exact qW_s ⟨k, rfl, R.2.2.2.1, hC2⟩
        · have c' : kd b n (z_p s2) ≠ 31 := c1
          rw [if_neg c1, if_pos (show nI (kd b n (z_p s2)) ≠ (31 : Int32) from fun z => c' ((nI_eq (by omega) (by decide)).mp (show nI (kd b n (z_p s2)) = nI 31 from z)))]
          rcases sX5_takes R ho hb.2 (k := 315) (by decide) (by decide) with ⟨c3, N3, e3, R3, k3⟩ | ⟨c3, e3⟩
          · rw [if_pos c3, show fX5_takes N (315 : Int32) = some (nI 1, N3) from e3, q_b_s, if_pos (by decide)]
            have g := kk_nx (b := b) (n := n) (s := s2) c1
            have hz3 := hz2.nx (b := b) (k := 1) g.1 g.2
            obtain ⟨r4, N4, e4, k4, g4⟩ := ih (c + 1) q N3 H1 (p_nx b n s2) (by omega) (by omega) (by omega) (by omega) R3 (hz3.le (Nat.zero_le _)) hC2
            refine ⟨r4, N4, ?_, (k.tr k3).tr k4, g4⟩
            show fX5_read_b37 q N3 (nI c + nI 1) = _
            rw [nI_add]
            exact e4
          · rw [if_neg c3, show fX5_takes N (315 : Int32) = some (nI 0, N) from e3, q_b_s, if_neg (by decide)]
            unfold fX5_read_b98
            obtain ⟨v, N2, e2, rfl, k2, _, g2, g3⟩ := sX5_fail R hn 0 (by decide) (r := .error (fl 0 (z_p s2))) rfl
            rw [show fX5_fail N (0 : Int32) = some (nI 0, N2) from e2, q_b_s]
            exact qW_s ⟨k.tr k2, g2, g3⟩
      rw [if_neg (by decide), g5]
      cases t with
      | false =>
        rw [if_pos (by decide)]
        exact after N1 s1 k1 R2 hz1 (I.ok hC (Or.inl ⟨rfl, rfl⟩) (Nat.le_of_lt (hz1.z hn)))
      | true =>
        rw [if_neg (by decide)]
        have hF := sX5_readTest (b := b) (n := n) (H := H1) ho hb (by omega) (by omega) (rc := fX5_readFact 14) (x := nI 0) (sX5_readFact ho hb (by omega) (by omega) 14 0 (by decide) (by decide)) (p_fact_ty 14 0)
        obtain ⟨r2, N2, e2, k2, g2⟩ := hF.2 N1 s1 R2 hz1
        rw [show fX5_readTest (fX5_readFact 14) N1 (0 : Int32) = some (r2, N2) from e2, q_b_s]
        show qW _ (fun v N => kp (SR o) M N ∧ PCd o (x_g (p_tst b n (p_fact b n 14 0) s1) (fun s2 => if p_kd b n s2 = 31 then .ok (mkC H1 s2) else if p_kd b n s2 = 315 then p_lp b n f H1 (p_nx b n s2) else .error (fl 0 (z_p s2)))) v N)
        cases hv2 : p_tst b n (p_fact b n 14 0) s1 with
        | error e =>
          rw [hv2] at g2
          obtain ⟨rfl, g2, g3⟩ := g2
          rw [if_neg (by decide)]
          unfold fX5_read_b65
          exact qW_s ⟨k1.tr k2, g2, g3⟩
        | ok s2 =>
          rw [hv2] at g2
          obtain ⟨rfl, R3⟩ := g2
          have hz2 := hF.1 _ _ _ hv2 hz1
          have T := (p_jn_ty (b := b) (Or.inl ⟨rfl, rfl⟩) (p_jn_ty (b := b) (Or.inr ⟨rfl, rfl⟩) (p_fact_ty 14 0)) s1 s2 [] hv2 (Nat.zero_le _)).1
          rw [if_pos (by decide)]
          exact after N2 s2 (k1.tr k2) R3 hz2 (I.ok hC (Or.inr ⟨rfl, T⟩) (Nat.le_of_lt (hz2.z hn)))
def SRD (o a _j : Nat) : Prop := a = 3 ∨ a = 2 ∨ a = o
theorem c_ok0 (b : Nat → Nat) (n : Nat) : c_ok (mkC HD0 (PZ0 b n)) := ⟨(show 1 < 16 by decide), (show 0 < 6 by decide), (show 6 < 9 by decide), (show 1 < 16 by decide), (show 0 ≤ 14 by decide), (show 0 ≤ 256 by decide), fun i hi => absurd hi (Nat.not_lt_zero _), fun j hj => absurd hj (Nat.not_lt_zero _), fun i hi => absurd hi (Nat.not_lt_zero _)⟩
theorem sX5_read {M : QM} (ho : 10 ≤ o) (hb : tp_ok n b) (T : TP1 M n b) : qW (fX5_read M o) (fun v N => kp (SRD o) M N ∧ PCd o (p_code b n) v N) := by
  obtain ⟨N1, e1, ⟨J, j1, j2, j3, j4, j5⟩, k1⟩ := sX9_take T hb
  unfold fX5_read
  rw [e1, q_bv_s, q_t, y_rr, if_pos (by decide)]
  unfold fX2_clear
  rw [q_t, q_t, q_t, q_t, q_t, q_bv_s, q_t, q_t, q_t]
  generalize hN : p_i (p_i (p_i _ 2 2 _) 2 3 _) 2 4 _ = N
  have k2 : kp (fun a j => a = 2 ∨ a = o) N1 N := by
    rw [← hN]
    exact ((((((((kp_r (Or.inl rfl)).tr (kp_i (Or.inr rfl))).tr (kp_i (Or.inr rfl))).tr (kp_i (Or.inr rfl))).tr (kp_i (Or.inr rfl))).tr (kp_i (Or.inr rfl))).tr (kp_i (Or.inl rfl))).tr (kp_i (Or.inl rfl))).tr (kp_i (Or.inl rfl))
  have R : R1 N b n o HD0 (PZ0 b n) := by
    refine ⟨⟨J, 0, j1, j2, j3, (k2.i (by omega)).trans j4, fun i hi => ?_, Nat.zero_le _, ?_, rfl⟩, ?_, ?_, ⟨?_, ?_, ?_, ?_, fun i hi => absurd hi (Nat.not_lt_zero _), fun j hj => absurd hj (Nat.not_lt_zero _)⟩, ?_⟩
    · rw [k2.a (by omega), k2.a (by omega), k2.a (by omega)]
      exact j5 i hi
    all_goals
      rw [← hN]
      simp only [y_ii, y_ia, y_il, y_ir, y_ai, y_aa, y_al, y_ar, y_li, y_la, y_ll, y_lr, y_ri, y_ra, y_rl, y_rr, and_true, true_and, and_false, false_and, and_self, if_true, if_false, Nat.reduceEqDiff, reduceCtorEq, or_false, false_or, or_true, true_or, show ¬ 2 = o by omega, show ¬ o = 2 by omega]
      try rfl
  obtain ⟨r, N2, e2, k3, g⟩ := sX5_read_b37 ho hb 15 0 q_F N HD0 (PZ0 b n) (by decide) (q_Fn (by decide)) rfl (by decide) R ⟨Nat.zero_le _, (rn_le (P := isS) (b := b) (Nat.zero_le n)).2, Nat.zero_le _⟩ (c_ok0 b n)
  refine ⟨r, N2, e2, ((k1.wd (T := SRD o) (fun a j z => Or.inl z)).tr (k2.wd (fun a j z => Or.inr z))).tr (k3.wd (fun a j z => Or.inr z)), g⟩
end READ2
