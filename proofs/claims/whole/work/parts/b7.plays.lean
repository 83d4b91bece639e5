/-! the reference's plays, mustField -/
/-- what stands behind 'works': a closed set of places, all with their values -/
def WK (N : QM) (E : EV) (x : Int32) (p : Nat) : Prop := ∃ c : Nat → Bool, CW E c ∧ c p = true ∧ (∀ b, 1536 ≤ b → CC E c b) ∧ ∀ b, c b = true → VA1 N E x b
theorem o_O_bit {p : Nat → Bool} {f : Nat → Nat} {m u : Nat} (hp : p m = true) (hu : (f m).testBit u = true) : ∀ n, m < n → (o_O p f n).testBit u = true := by
  intro n
  induction n with
  | zero => intro z; omega
  | succ n ih =>
    intro z
    unfold o_O
    by_cases e : m = n
    · subst e
      rw [if_pos hp, Nat.testBit_or, hu, Bool.or_true]
    · have := ih (by omega)
      split
      · rw [Nat.testBit_or, this]
        rfl
      · exact this
section PLAYS
variable {nc c0 c1 : Nat} {M : QM} {E : EV}
theorem sX12_fresh (h : v_ok nc E) (P : PY M E c0 c1) {s : ST} (hs : v_w E s) (h0 : s_e s = 0) (x : Int32) {α : Type} {f : QM → Option α} {Q : α → Prop} (hf : ∀ N, WK N E x (s_pl s) → PY N E c0 c1 → kp SV M N → ∃ y, f N = some y ∧ Q y) :
    ∃ y, (q_bv (fX12_forgets M) fun M6 => (if q_in (nI (s_pl s)) 13824 then (q_t (p_a M6 1000 36 (nI (s_pl s)).toNatClampNeg (vp_nar .boolean (nI 1))) fun M8 => (q_bv (fX12_works M8 x) f)) else none)) = some y ∧ Q y := by
  have hh := v_h_le h
  have wl := hs.2 h0
  have hb := s_pl_b hs.1
  obtain ⟨N1, e1, C1, k1⟩ := sX12_forgets M
  have C2 := C1.put (s_pl s)
  have k2 : kp (fun a j => a = 1000 ∧ j = 36) M (p_a N1 1000 36 (s_pl s) (nI 1)) := k1.tr (kp_a ⟨rfl, rfl⟩)
  have k2V : kp SV M (p_a N1 1000 36 (s_pl s) (nI 1)) := k2.wd (fun a j z => by unfold SV; omega)
  have P2 := P.keptV k2V (fun a j z => z)
  have W2 : CW E (fU (fun _ => false) (s_pl s) true) := fun i hi => by
    by_cases e : i = s_pl s
    · subst e
      refine ⟨by omega, ?_⟩
      rw [s_up_pl hs.1 h0 wl.1]
      exact hs
    · rw [fU_n _ _ e] at hi
      cases hi
  obtain ⟨N3, e3, ⟨c', w1, w2, w3, w4⟩, p3, k3⟩ := sX12_works h P2 (x := x) C2 W2
  obtain ⟨y, ey, hy⟩ := hf N3 ⟨c', w1, w2 _ (fU_s _ _ _), w3, w4⟩ p3 (k2V.tr k3)
  refine ⟨y, ?_, hy⟩
  rw [e1, q_bv_s, if_pos (q_inN (by omega) (by decide)), nI_cl (by omega), y_t, y_b1, e3, q_bv_s, ey]
theorem WK.at {x : Int32} {p : Nat} (W : WK M E x p) {s : ST} (hs : v_w E s) (h0 : s_e s = 0) (e : p = s_pl s) : VA1 M E x (s_pl s) := by
  obtain ⟨c, -, h1, -, h2⟩ := W
  subst e
  exact h2 _ h1
theorem sX12_plays (h : v_ok nc E) (P : PY M E c0 c1) {s : ST} (R : RST M s) (hs : v_w E s) : qW (fX12_plays M) (fun r N => r = nI (v_G E s).2 ∧ PY N E c0 c1 ∧ kp SV M N) := by
  have he : s_e s < 5 := hs.1.2.2.2.2.2.1
  unfold fX12_plays
  rw [R.2.2.2.2.1]
  by_cases c : s_e s = 0
  · have wl := hs.2 c
    have hh := v_h_le h
    have hb := s_pl_b hs.1
    rw [if_pos (show nI (s_e s) ≤ 0 by rw [c]; decide), sX12_place R hs.1 c, q_b_s]
    obtain ⟨⟨r, N⟩, e, h1, h2⟩ := sX12_fresh h P hs c (-1) (f := fun M11 => if q_in (nI (s_pl s)) 13824 then some (q_a M11 1000 37 (nI (s_pl s)).toNatClampNeg, M11) else none) (Q := fun y => y.1 = nI (v_G E s).2 ∧ PY y.2 E c0 c1 ∧ kp SV M y.2) (fun N W PN k => by
      have v := WK.at W hs c rfl
      unfold VA1 at v
      rw [s_up_pl hs.1 c wl.1] at v
      refine ⟨(nI (v_G E s).2, N), ?_, rfl, PN, k⟩
      rw [if_pos (q_inN (by omega) (by decide)), nI_cl (by omega), v.1])
    exact ⟨r, N, e, h1, h2⟩
  · rw [if_neg (show ¬ nI (s_e s) ≤ 0 from nI_nle (by omega) (by omega)), sX12_outcome R, q_b_s, v_G_e c]
    exact qW_s ⟨rfl, P, kp.rf⟩
/-- a quarrel that goes on can end elsewhere than in the field -/
theorem v_E_other (h : v_ok nc E) : ∀ (l : Nat) (s : ST), s_l s ≤ l → v_w E s → s_e s = 0 → ∃ u, u ≠ 8 ∧ (v_E E s).testBit u = true := by
  intro l
  induction l with
  | zero =>
    intro s hl hs h0
    have := (hs.2 h0).2.1
    omega
  | succ l ih =>
    intro s hl hs h0
    have hl0 := (hs.2 h0).2.1
    rw [v_E_s h0 hl0]
    by_cases ck : s_k s = 0
    · have hc : v_can E s 10 = true := v_canI.mpr ⟨h0, by decide, Or.inl ⟨ck, Or.inr (Or.inl rfl)⟩⟩
      have hw := v_a_w h hs hc true
      have key : ∃ u, u ≠ 8 ∧ (v_E E (v_a E s 10 true)).testBit u = true := by
        by_cases c : s_e (v_a E s 10 true) = 0
        · exact ih _ (by rw [v_a_l c]; omega) hw c
        · refine ⟨s_u (v_a E s 10 true), ?_, ?_⟩
          · intro z
            have e2 : s_e (v_a E s 10 true) = 2 := by
              have h1 : s_z (v_a E s 10 true) < 4 := hw.1.2.2.2.2.2.2
              unfold s_u at z
              omega
            unfold v_a at e2
            rw [if_pos ck] at e2
            generalize (if s_t s = 0 then s_o s 0 else v_o E s 10 true) = a at e2
            generalize (if s_t s = 0 then v_o E s 10 true else s_o s 1) = b at e2
            generalize (if 10 = 8 then s_t s + 1 else 0) = k at e2
            unfold v_n at e2
            by_cases d : a = 0 ∧ b = 0 ∧ k = 0
            · rw [if_pos d] at e2
              exact absurd e2 (show ¬ (1 = 2) by decide)
            · rw [if_neg d] at e2
              by_cases d2 : s_l s ≤ 1
              · rw [if_pos d2] at e2
                exact absurd e2 (show ¬ (4 = 2) by decide)
              · rw [if_neg d2] at e2
                exact absurd e2 (show ¬ (0 = 2) by decide)
          · rw [v_E_e c, Nat.testBit_two_pow]
            exact decide_eq_true rfl
      obtain ⟨u, h1, h2⟩ := key
      exact ⟨u, h1, o_O_bit (f := fun m => v_E E (v_a E s m true)) hc h2 11 (by decide)⟩
    · have hc : v_can E s 9 = true := v_canI.mpr ⟨h0, by decide, Or.inr ⟨ck, Or.inr rfl⟩⟩
      have e3 : s_e (v_a E s 9 true) = 3 := by
        unfold v_a
        rw [if_neg ck, if_neg (by decide)]
        rfl
      have c : ¬ s_e (v_a E s 9 true) = 0 := by rw [e3]; decide
      refine ⟨s_u (v_a E s 9 true), ?_, o_O_bit (f := fun m => v_E E (v_a E s m true)) hc ?_ 11 (by decide)⟩
      · unfold s_u
        omega
      · show (v_E E (v_a E s 9 true)).testBit _ = true
        rw [v_E_e c, Nat.testBit_two_pow]
        exact decide_eq_true rfl
theorem v_E_256 (h : v_ok nc E) {s : ST} (hs : v_w E s) (h0 : s_e s = 0) : v_E E s ≠ 256 := fun z => by
  obtain ⟨u, h1, h2⟩ := v_E_other h _ s (Nat.le_refl _) hs h0
  rw [z, show (256 : Nat) = 2 ^ 8 from rfl, Nat.testBit_two_pow] at h2
  exact h1 (of_decide_eq_true h2).symm
theorem sX12_mustField (h : v_ok nc E) (P : PY M E c0 c1) {s : ST} (R : RST M s) (hs : v_w E s) : qW (fX12_mustField M) (fun r N => r = nI (if s_e s = 2 then 1 else 0) ∧ PY N E c0 c1 ∧ kp SV M N) := by
  have he : s_e s < 5 := hs.1.2.2.2.2.2.1
  unfold fX12_mustField
  rw [R.2.2.2.2.1]
  by_cases c : s_e s = 0
  · have wl := hs.2 c
    have hh := v_h_le h
    have hb := s_pl_b hs.1
    rw [if_pos (show nI (s_e s) ≤ 0 by rw [c]; decide), sX12_place R hs.1 c, q_b_s]
    obtain ⟨⟨r, N⟩, e, h1, h2⟩ := sX12_fresh h P hs c (-1) (f := fun M11 => if q_in (nI (s_pl s)) 13824 then if (q_a M11 1000 39 (nI (s_pl s)).toNatClampNeg) ≠ (256 : Int32) then some ((0 : Int32), M11) else some ((1 : Int32), M11) else none) (Q := fun y => y.1 = nI (if s_e s = 2 then 1 else 0) ∧ PY y.2 E c0 c1 ∧ kp SV M y.2) (fun N W PN k => by
      have v := WK.at W hs c rfl
      unfold VA1 at v
      rw [s_up_pl hs.1 c wl.1] at v
      have hE := v_E_lt h _ s (Nat.le_refl _) hs
      refine ⟨(nI 0, N), ?_, ?_, PN, k⟩
      · rw [if_pos (q_inN (by omega) (by decide)), nI_cl (by omega), v.2.2.1, if_pos (show nI (v_E E s) ≠ (256 : Int32) from fun z => v_E_256 h hs c ((nI_eq (b := 256) (by omega) (by decide)).mp z))]
        rfl
      · rw [if_neg (by omega)])
    exact ⟨r, N, e, h1, h2⟩
  · rw [if_neg (show ¬ nI (s_e s) ≤ 0 from nI_nle (by omega) (by omega))]
    by_cases c2 : s_e s = 2
    · rw [if_neg (show ¬ nI (s_e s) ≠ 2 from fun z => z (by rw [c2]; rfl)), if_pos c2]
      exact qW_s ⟨rfl, P, kp.rf⟩
    · rw [if_pos (show nI (s_e s) ≠ 2 from fun z => c2 ((nI_eq (b := 2) (by omega) (by decide)).mp z)), if_neg c2]
      exact qW_s ⟨rfl, P, kp.rf⟩
end PLAYS
