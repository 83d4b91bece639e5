/-! the reference's works: the loops -/
def SCk (a j : Nat) : Prop := a = 1000 ∧ ((14 ≤ j ∧ j ≤ 24) ∨ (30 ≤ j ∧ j ≤ 35) ∨ (37 ≤ j ∧ j ≤ 41))
/-- only the rows' cells at one place change -/
def SC (N N1 : QM) (x : Nat) : Prop := kp SCk N N1 ∧ (∀ j b, b ≠ x → 37 ≤ j → j ≤ 41 → q_a N1 1000 j b = q_a N 1000 j b) ∧ ∀ b, b ≠ x → q_l N1 1000 40 b = q_l N 1000 40 b
theorem SC.rf {N : QM} {x : Nat} : SC N N x := ⟨kp.rf, fun _ _ _ _ _ => rfl, fun _ _ => rfl⟩
theorem SC.tr {N N1 N2 : QM} {x : Nat} (h : SC N N1 x) (g : SC N1 N2 x) : SC N N2 x := ⟨h.1.tr g.1, fun j b h1 h2 h3 => (g.2.1 j b h1 h2 h3).trans (h.2.1 j b h1 h2 h3), fun b h1 => (g.2.2 b h1).trans (h.2.2 b h1)⟩
theorem SC.k {N N1 : QM} {x : Nat} {S : Nat → Nat → Prop} (k : kp S N N1) (hS : ∀ a j, S a j → SD a j) : SC N N1 x :=
  ⟨k.wd (fun a j z => by have z := hS _ _ z; unfold SD at z; unfold SCk; omega), fun j b _ h1 h2 => k.a (fun z => by have z := hS _ _ z; unfold SD at z; omega), fun b _ => k.l (fun z => by have z := hS _ _ z; unfold SD at z; omega)⟩
theorem SC.a {N : QM} {x j : Nat} (hj : 37 ≤ j ∧ j ≤ 41) (v : Int32) : SC N (p_a N 1000 j x v) x :=
  ⟨kp_a ⟨rfl, Or.inr (Or.inr hj)⟩, fun j2 b hb _ _ => by rw [q_a_p_a, if_neg (fun z => hb z.2.2)], fun b _ => rfl⟩
theorem SC.l {N : QM} {x : Nat} (v : Int64) : SC N (p_l N 1000 40 x v) x :=
  ⟨kp_l ⟨rfl, Or.inr (Or.inr (by decide))⟩, fun j2 b hb _ _ => rfl, fun b hb => by rw [q_l_p_l, if_neg (fun z => hb z.2.2)]⟩
theorem SCk_V {a j : Nat} (h : SCk a j) : SV a j := by
  unfold SCk at h
  unfold SV
  omega
theorem VA1.sc {N N1 : QM} {E : EV} {x : Int32} {at' b : Nat} (h : VA1 N E x b) (s : SC N N1 at') (hb : b ≠ at') : VA1 N1 E x b := by
  unfold VA1 at h ⊢
  rw [s.2.1 37 b hb (by decide) (by decide), s.2.1 38 b hb (by decide) (by decide), s.2.1 39 b hb (by decide) (by decide), s.2.2 b hb, s.2.1 41 b hb (by decide) (by decide)]
  exact h
/-- what the game's cells hold so far -/
def GC (N : QM) (x : Nat) (g : Option (Nat × Nat)) : Prop := match g with
  | none => q_a N 1000 38 x = -nI 1
  | some y => q_a N 1000 38 x = nI y.1 ∧ q_a N 1000 37 x = nI y.2 ∧ u_ok y.2 ∧ y.1 < 11
/-- a move more -/
def g_j (g : Option (Nat × Nat)) (m o h : Nat) : Option (Nat × Nat) := match g with
  | none => some (m, o)
  | some (k, u) => if u_w o h < u_w u h then some (m, o) else some (k, u)
section WORKS2
variable {nc c0 c1 : Nat} {M : QM} {E : EV}
theorem sX12_works_b136 {k69 : QM → Int32 → Int32 → Int32 → Int32 → Option QM} {k8 : QM → Int32 → Int32 → Option QM} {N : QM} {x : Int32} {at' m h o : Nat} {x5 : Int32} {g : Option (Nat × Nat)} (hat : at' < 13824) (hm : m < 11) (hh : h < 2) (ho : u_ok o) (hg : GC N at' g) :
    ∃ N1, fX12_works_b136 k69 k8 N x (nI at') (nI h) (nI m) x5 (nI o) = fX12_works_b182 k69 k8 N1 x (nI at') (nI h) (nI m) x5 ∧ GC N1 at' (g_j g m o h) ∧ SC N N1 at' ∧ kp (fun a j => a = 1000 ∧ (j = 37 ∨ j = 38)) N N1 := by
  have b166 : fX12_works_b166 k69 k8 N x (nI at') (nI h) (nI m) x5 (nI o) = fX12_works_b182 k69 k8 (p_a (p_a N 1000 38 at' (nI m)) 1000 37 at' (nI o)) x (nI at') (nI h) (nI m) x5 := by
    unfold fX12_works_b166
    simp (disch := omega) only [y_lit, y_lt_T, y_lt_F, y_le_T, y_le_F, y_eq_T, y_eq_F, y_in_T, y_cl, ↓reduceIte, y_bs, y_bvs, y_os, y_on, y_t, ne_eq, not_true_eq_false, not_false_eq_true, pk_mul, nI_add]
  have g166 : GC (p_a (p_a N 1000 38 at' (nI m)) 1000 37 at' (nI o)) at' (some (m, o)) := by
    refine ⟨?_, ?_, ho, hm⟩
    · simp [q_a_p_a]
    · simp [q_a_p_a]
  have s166 : SC N (p_a (p_a N 1000 38 at' (nI m)) 1000 37 at' (nI o)) at' := (SC.a (by decide) _).tr (SC.a (by decide) _)
  have k166 : kp (fun a j => a = 1000 ∧ (j = 37 ∨ j = 38)) N (p_a (p_a N 1000 38 at' (nI m)) 1000 37 at' (nI o)) := kp.tr (kp_a ⟨rfl, Or.inr rfl⟩) (kp_a ⟨rfl, Or.inl rfl⟩)
  cases g with
  | none =>
    have hg : q_a N 1000 38 at' = -nI 1 := hg
    refine ⟨_, ?_, g166, s166, k166⟩
    unfold fX12_works_b136
    simp (disch := omega) only [y_lit, y_lt_T, y_lt_F, y_le_T, y_le_F, y_eq_T, y_eq_F, y_in_T, y_cl, ↓reduceIte, y_bs, y_bvs, y_os, y_on, y_t, ne_eq, not_true_eq_false, not_false_eq_true, pk_mul, nI_add, hg, m1_lt]
    exact b166
  | some y =>
    obtain ⟨k, u⟩ := y
    obtain ⟨h38, h37, hu, hk⟩ := hg
    have h38 : q_a N 1000 38 at' = nI k := h38
    have h37 : q_a N 1000 37 at' = nI u := h37
    have w1 := u_w_lt o h
    have w2 := u_w_lt u h
    have f : fX12_works_b136 k69 k8 N x (nI at') (nI h) (nI m) x5 (nI o) = if nI (u_w u h) ≤ nI (u_w o h) then fX12_works_b182 k69 k8 N x (nI at') (nI h) (nI m) x5 else fX12_works_b166 k69 k8 N x (nI at') (nI h) (nI m) x5 (nI o) := by
      unfold fX12_works_b136
      have hk : k < 11 := hk
      simp (disch := omega) only [y_lit, y_lt_T, y_lt_F, y_le_T, y_le_F, y_eq_T, y_eq_F, y_in_T, y_cl, ↓reduceIte, y_bs, y_bvs, y_os, y_on, y_t, ne_eq, not_true_eq_false, not_false_eq_true, pk_mul, nI_add, h38]
      rw [sX12_worth N ho hh]
      simp (disch := omega) only [y_lit, y_lt_T, y_lt_F, y_le_T, y_le_F, y_eq_T, y_eq_F, y_in_T, y_cl, ↓reduceIte, y_bs, y_bvs, y_os, y_on, y_t, ne_eq, not_true_eq_false, not_false_eq_true, pk_mul, nI_add, h37]
      rw [sX12_worth N hu hh]
      simp (disch := omega) only [y_lit, y_lt_T, y_lt_F, y_le_T, y_le_F, y_eq_T, y_eq_F, y_in_T, y_cl, ↓reduceIte, y_bs, y_bvs, y_os, y_on, y_t, ne_eq, not_true_eq_false, not_false_eq_true, pk_mul, nI_add]
    by_cases c : u_w o h < u_w u h
    · refine ⟨_, ?_, ?_, s166, k166⟩
      · rw [f, if_neg (nI_ge c (by omega)), b166]
      · show GC _ at' (if u_w o h < u_w u h then some (m, o) else some (k, u))
        rw [if_pos c]
        exact g166
    · refine ⟨N, ?_, ?_, SC.rf, kp.rf⟩
      · rw [f, if_pos (nI_le (by omega) (by omega))]
      · show GC _ at' (if u_w o h < u_w u h then some (m, o) else some (k, u))
        rw [if_neg c]
        exact ⟨h38, h37, hu, hk⟩
theorem sX12_works_b69 (h : v_ok nc E) {x : Int32} {at' : Nat} (hat : at' < 13824) (hw : v_w E (s_up at')) {K : QM → Int32 → Int32 → Option QM} : ∀ (n i q : Nat) (N : QM), i + n = 11 → n < q → PY N E c0 c1 →
    (∀ m, m < 11 → v_can E (s_up at') m = true → s_e (v_a E (s_up at') m true) = 0 → VA1 N E x (s_pl (v_a E (s_up at') m true))) →
    GC N at' (g_b (v_can E (s_up at')) (fun m => (v_G E (v_a E (s_up at') m true)).2) (s_t (s_up at')) i) → q_a N 1000 39 at' = nI (o_O (v_can E (s_up at')) (fun m => v_E E (v_a E (s_up at') m true)) i) →
    q_l N 1000 40 at' = lN (o_S (v_can E (s_up at')) (fun m => v_W E x (v_a E (s_up at') m true)) i) → q_a N 1000 41 at' = nI (o_M (v_can E (s_up at')) (fun m => v_b E x (v_a E (s_up at') m true)) i) →
    ∃ N1, fX12_works_b69 K q N x (nI at') (nI (s_t (s_up at'))) (nI i) = K N1 x (nI (at' + 1)) ∧ VA1 N1 E x at' ∧ SC N N1 at' := by
  have hl0 := (hw.2 rfl).2.1
  have ht : s_t (s_up at') < 2 := hw.1.2.2.2.1
  have hlu := s_pl_b hw.1
  rw [s_pl_up] at hlu
  intro n
  induction n with
  | zero =>
    intro i q N hi hq P hV hG hE hW hb
    obtain ⟨q, rfl⟩ : ∃ p, q = p + 1 := ⟨q - 1, by omega⟩
    have e : i = 11 := hi
    subst e
    rw [v_G_b (E := E) rfl hl0] at hG
    rw [← v_E_s (E := E) rfl hl0] at hE
    rw [← v_W_s (E := E) rfl hl0] at hW
    rw [← v_b_s (E := E) rfl hl0] at hb
    refine ⟨N, ?_, ⟨hG.2.1, hG.1, hE, hW, hb⟩, SC.rf⟩
    simp (disch := omega) only [fX12_works_b69, fX12_works_b325, y_lit, y_lt_T, y_lt_F, y_le_T, y_le_F, y_eq_T, y_eq_F, y_in_T, y_cl, ↓reduceIte, y_bs, y_bvs, y_os, y_on, y_t, ne_eq, not_true_eq_false, not_false_eq_true, pk_mul, nI_add]
  | succ n ih =>
    intro i q N hi hq P hV hG hE hW hb
    obtain ⟨q, rfl⟩ : ∃ p, q = p + 1 := ⟨q - 1, by omega⟩
    obtain ⟨N1, e1, R1, k1⟩ := sX12_goTo N hat
    have k1D : kp SD N N1 := k1.wd (fun a j z => ⟨z.1, Or.inr z.2⟩)
    have P1 := P.kept k1D (fun a j z => z)
    have cn := sX12_can P1 h R1 hw (show i < 11 by omega)
    have s1 : SC N N1 at' := SC.k k1D (fun a j z => z)
    have gC : ∀ (N2 : QM), kp SD N N2 → ∀ (y : Option (Nat × Nat)), GC N at' y → GC N2 at' y := fun N2 k y z => by
      cases y with
      | none => exact (k.a (by unfold SD; omega)).trans z
      | some y => exact ⟨(k.a (by unfold SD; omega)).trans z.1, (k.a (by unfold SD; omega)).trans z.2.1, z.2.2⟩
    by_cases cc : v_can E (s_up at') i = true
    · rw [if_pos cc] at cn
      obtain ⟨N2, e2, R2, k2⟩ := sX12_does P1 h R1 hw cc true
      have hwa := v_a_w h hw cc true
      have he5 : s_e (v_a E (s_up at') i true) < 5 := hwa.1.2.2.2.2.2.1
      have k12 : kp SD N N2 := k1D.tr k2
      have P2 := P.kept k12 (fun a j z => z)
      have s2 : SC N N2 at' := SC.k k12 (fun a j z => z)
      have e2' : fX12_does N1 (nI i) (nI 1) = some N2 := e2
      have uo : u_ok (v_G E (v_a E (s_up at') i true)).2 := by
        by_cases c : s_e (v_a E (s_up at') i true) = 0
        · exact (v_G_ok h _ _ (Nat.le_refl _) hwa c).2.2
        · rw [v_G_e c]
          exact v_a_u h hw cc true c
      -- the stages at a place or behind an end
      have stage : ∀ x5 : Int32, ((s_e (v_a E (s_up at') i true) = 0 ∧ x5 = nI (s_pl (v_a E (s_up at') i true))) ∨ (¬ s_e (v_a E (s_up at') i true) = 0 ∧ x5 = -nI 1)) → ∃ N4, fX12_works_b136 (fun M x1 x2 x3 x4 => fX12_works_b69 K q M x1 x2 x3 x4) K N2 x (nI at') (nI (s_t (s_up at'))) (nI i) x5 (nI (v_G E (v_a E (s_up at') i true)).2) = K N4 x (nI (at' + 1)) ∧ VA1 N4 E x at' ∧ SC N N4 at' := fun x5 hx5 => by
        obtain ⟨N3, f3, g3, s3, k3⟩ := sX12_works_b136 (k69 := fun M x1 x2 x3 x4 => fX12_works_b69 K q M x1 x2 x3 x4) (k8 := K) (N := N2) (x := x) (x5 := x5) hat (show i < 11 by omega) ht uo (gC _ k12 _ hG)
        have h39 : q_a N3 1000 39 at' = nI (o_O (v_can E (s_up at')) (fun m => v_E E (v_a E (s_up at') m true)) i) := (k3.a (by omega)).trans ((k12.a (by unfold SD; omega)).trans hE)
        have h40 : q_l N3 1000 40 at' = lN (o_S (v_can E (s_up at')) (fun m => v_W E x (v_a E (s_up at') m true)) i) := (k3.l (by omega)).trans ((k12.l (by unfold SD; omega)).trans hW)
        have h41 : q_a N3 1000 41 at' = nI (o_M (v_can E (s_up at')) (fun m => v_b E x (v_a E (s_up at') m true)) i) := (k3.a (by omega)).trans ((k12.a (by unfold SD; omega)).trans hb)
        have R3 : RST N3 (v_a E (s_up at') i true) := R2.kept k3 (fun j z => by omega)
        have f4 := sX12_works_b182 (k69 := fun M x1 x2 x3 x4 => fX12_works_b69 K q M x1 x2 x3 x4) (k8 := K) (N := N3) (x := x) (x3 := nI (s_t (s_up at'))) (x5 := x5) (m := i) (fe := v_E E (v_a E (s_up at') i true)) (fw := v_W E x (v_a E (s_up at') i true)) (fb := v_b E x (v_a E (s_up at') i true)) hat (o_M_le _ _ _) (v_b_le _ _ _) h39 h40 h41 (by
          rcases hx5 with ⟨c, e⟩ | ⟨c, e⟩
          · refine Or.inl ⟨s_pl (v_a E (s_up at') i true), ?_, ?_, e, ?_, ?_, ?_⟩
            · have := s_pl_b hwa.1
              have := v_a_l c
              omega
            · have := s_pl_b hwa.1
              have := v_a_l c
              have := (hwa.2 c).2.1
              omega
            · have v := hV i (by omega) cc c
              have wl := hwa.2 c
              unfold VA1 at v
              rw [s_up_pl hwa.1 c wl.1] at v
              exact (k3.a (by omega)).trans ((k12.a (by unfold SD; omega)).trans v.2.2.1)
            · have v := hV i (by omega) cc c
              have wl := hwa.2 c
              unfold VA1 at v
              rw [s_up_pl hwa.1 c wl.1] at v
              exact (k3.l (by omega)).trans ((k12.l (by unfold SD; omega)).trans v.2.2.2.1)
            · have v := hV i (by omega) cc c
              have wl := hwa.2 c
              unfold VA1 at v
              rw [s_up_pl hwa.1 c wl.1] at v
              exact (k3.a (by omega)).trans ((k12.a (by unfold SD; omega)).trans v.2.2.2.2)
          · exact Or.inr ⟨e, _, R3, s_u_lt hwa.1, v_E_e c, v_W_e c, v_b_e c⟩)
        have eO : o_O (v_can E (s_up at')) (fun m => v_E E (v_a E (s_up at') m true)) (i + 1) = o_O (v_can E (s_up at')) (fun m => v_E E (v_a E (s_up at') m true)) i ||| v_E E (v_a E (s_up at') i true) := if_pos cc
        have eS : o_S (v_can E (s_up at')) (fun m => v_W E x (v_a E (s_up at') m true)) (i + 1) = o_S (v_can E (s_up at')) (fun m => v_W E x (v_a E (s_up at') m true)) i + v_W E x (v_a E (s_up at') i true) := if_pos cc
        have eM : o_M (v_can E (s_up at')) (fun m => v_b E x (v_a E (s_up at') m true)) (i + 1) = if v_b E x (v_a E (s_up at') i true) < 99 ∧ v_b E x (v_a E (s_up at') i true) + 1 < o_M (v_can E (s_up at')) (fun m => v_b E x (v_a E (s_up at') m true)) i then v_b E x (v_a E (s_up at') i true) + 1 else o_M (v_can E (s_up at')) (fun m => v_b E x (v_a E (s_up at') m true)) i := if_pos cc
        have eG : g_b (v_can E (s_up at')) (fun m => (v_G E (v_a E (s_up at') m true)).2) (s_t (s_up at')) (i + 1) = g_j (g_b (v_can E (s_up at')) (fun m => (v_G E (v_a E (s_up at') m true)).2) (s_t (s_up at')) i) i (v_G E (v_a E (s_up at') i true)).2 (s_t (s_up at')) := if_pos cc
        rw [← eO, ← eS, ← eM] at f4
        have g3 : GC N3 at' (g_b (v_can E (s_up at')) (fun m => (v_G E (v_a E (s_up at') m true)).2) (s_t (s_up at')) (i + 1)) := by
          rw [eG]
          exact g3
        generalize hN4 : p_a (p_l (p_a N3 1000 39 at' (nI (o_O (v_can E (s_up at')) (fun m => v_E E (v_a E (s_up at') m true)) (i + 1)))) 1000 40 at' (lN (o_S (v_can E (s_up at')) (fun m => v_W E x (v_a E (s_up at') m true)) (i + 1)))) 1000 41 at' (nI (o_M (v_can E (s_up at')) (fun m => v_b E x (v_a E (s_up at') m true)) (i + 1))) = N4 at f4
        have s4 : SC N3 N4 at' := by
          rw [← hN4]
          exact ((SC.a (by decide) _).tr (SC.l _)).tr (SC.a (by decide) _)
        have sT : SC N N4 at' := (s2.tr s3).tr s4
        have PN4 := P.keptV sT.1 (fun a j z => SCk_V z)
        obtain ⟨N5, f5, v5, s5⟩ := ih (i + 1) q N4 (by omega) (by omega) PN4 (fun m hm hc he => (hV m hm hc he).sc sT (by
            have := s_pl_b (v_a_w h hw hc true).1
            have := v_a_l he
            omega)) (by
            have kz : kp (fun a j => a = 1000 ∧ (j = 39 ∨ j = 40 ∨ j = 41)) N3 N4 := by
              rw [← hN4]
              exact kp.tr (kp.tr (kp_a ⟨rfl, by omega⟩) (kp_l ⟨rfl, by omega⟩)) (kp_a ⟨rfl, by omega⟩)
            generalize g_b (v_can E (s_up at')) (fun m => (v_G E (v_a E (s_up at') m true)).2) (s_t (s_up at')) (i + 1) = y at g3 ⊢
            cases y with
            | none => exact (kz.a (by omega)).trans g3
            | some y => exact ⟨(kz.a (by omega)).trans g3.1, (kz.a (by omega)).trans g3.2.1, g3.2.2⟩) (by
            rw [← hN4]
            simp [q_a_p_a, q_a_p_l]) (by
            rw [← hN4]
            simp [q_l_p_a, q_l_p_l]) (by
            rw [← hN4]
            simp [q_a_p_a])
        exact ⟨N5, f3.trans (f4.trans f5), v5, sT.tr s5⟩
      rw [fX12_works_b69]
      simp (disch := omega) only [y_lit, y_lt_T, y_lt_F, y_le_T, y_le_F, y_eq_T, y_eq_F, y_in_T, y_cl, ↓reduceIte, y_bs, y_bvs, y_os, y_on, y_t, ne_eq, not_true_eq_false, not_false_eq_true, pk_mul, nI_add]
      rw [e1]
      simp (disch := omega) only [y_lit, y_lt_T, y_lt_F, y_le_T, y_le_F, y_eq_T, y_eq_F, y_in_T, y_cl, ↓reduceIte, y_bs, y_bvs, y_os, y_on, y_t, ne_eq, not_true_eq_false, not_false_eq_true, pk_mul, nI_add]
      rw [cn]
      simp (disch := omega) only [y_lit, y_lt_T, y_lt_F, y_le_T, y_le_F, y_eq_T, y_eq_F, y_in_T, y_cl, ↓reduceIte, y_bs, y_bvs, y_os, y_on, y_t, ne_eq, not_true_eq_false, not_false_eq_true, pk_mul, nI_add]
      rw [e2']
      simp (disch := omega) only [y_lit, y_lt_T, y_lt_F, y_le_T, y_le_F, y_eq_T, y_eq_F, y_in_T, y_cl, ↓reduceIte, y_bs, y_bvs, y_os, y_on, y_t, ne_eq, not_true_eq_false, not_false_eq_true, pk_mul, nI_add, R2.2.2.2.2.1]
      by_cases c : s_e (v_a E (s_up at') i true) = 0
      · have wl := hwa.2 c
        have hpl := s_pl_b hwa.1
        have hal := v_a_l c
        have v := hV i (by omega) cc c
        unfold VA1 at v
        rw [s_up_pl hwa.1 c wl.1] at v
        have v37 : q_a N2 1000 37 (s_pl (v_a E (s_up at') i true)) = nI (v_G E (v_a E (s_up at') i true)).2 := (k12.a (by unfold SD; omega)).trans v.1
        obtain ⟨N4, f, g1, g2⟩ := stage _ (Or.inl ⟨c, rfl⟩)
        refine ⟨N4, ?_, g1, g2⟩
        simp (disch := omega) only [y_lit, y_lt_T, y_lt_F, y_le_T, y_le_F, y_eq_T, y_eq_F, y_in_T, y_cl, ↓reduceIte, y_bs, y_bvs, y_os, y_on, y_t, ne_eq, not_true_eq_false, not_false_eq_true, pk_mul, nI_add]
        rw [sX12_place R2 hwa.1 c]
        simp (disch := omega) only [y_lit, y_lt_T, y_lt_F, y_le_T, y_le_F, y_eq_T, y_eq_F, y_in_T, y_cl, ↓reduceIte, y_bs, y_bvs, y_os, y_on, y_t, ne_eq, not_true_eq_false, not_false_eq_true, pk_mul, nI_add, fX12_works_b115, v37]
        exact f
      · obtain ⟨N4, f, g1, g2⟩ := stage _ (Or.inr ⟨c, rfl⟩)
        refine ⟨N4, ?_, g1, g2⟩
        simp (disch := omega) only [y_lit, y_lt_T, y_lt_F, y_le_T, y_le_F, y_eq_T, y_eq_F, y_in_T, y_cl, ↓reduceIte, y_bs, y_bvs, y_os, y_on, y_t, ne_eq, not_true_eq_false, not_false_eq_true, pk_mul, nI_add, fX12_works_b115, m1_le]
        rw [sX12_outcome R2]
        rw [v_G_e c] at f
        simp (disch := omega) only [y_lit, y_lt_T, y_lt_F, y_le_T, y_le_F, y_eq_T, y_eq_F, y_in_T, y_cl, ↓reduceIte, y_bs, y_bvs, y_os, y_on, y_t, ne_eq, not_true_eq_false, not_false_eq_true, pk_mul, nI_add]
        exact f
    · rw [if_neg cc] at cn
      have eO : o_O (v_can E (s_up at')) (fun m => v_E E (v_a E (s_up at') m true)) (i + 1) = o_O (v_can E (s_up at')) (fun m => v_E E (v_a E (s_up at') m true)) i := if_neg cc
      have eS : o_S (v_can E (s_up at')) (fun m => v_W E x (v_a E (s_up at') m true)) (i + 1) = o_S (v_can E (s_up at')) (fun m => v_W E x (v_a E (s_up at') m true)) i := if_neg cc
      have eM : o_M (v_can E (s_up at')) (fun m => v_b E x (v_a E (s_up at') m true)) (i + 1) = o_M (v_can E (s_up at')) (fun m => v_b E x (v_a E (s_up at') m true)) i := if_neg cc
      have eG : g_b (v_can E (s_up at')) (fun m => (v_G E (v_a E (s_up at') m true)).2) (s_t (s_up at')) (i + 1) = g_b (v_can E (s_up at')) (fun m => (v_G E (v_a E (s_up at') m true)).2) (s_t (s_up at')) i := if_neg cc
      obtain ⟨N5, f5, v5, s5⟩ := ih (i + 1) q N1 (by omega) (by omega) P1 (fun m hm hc he => (hV m hm hc he).sc s1 (by
            have := s_pl_b (v_a_w h hw hc true).1
            have := v_a_l he
            omega)) (by rw [eG]; exact gC _ k1D _ hG) (by rw [eO]; exact (k1D.a (by unfold SD; omega)).trans hE) (by rw [eS]; exact (k1D.l (by unfold SD; omega)).trans hW) (by rw [eM]; exact (k1D.a (by unfold SD; omega)).trans hb)
      refine ⟨N5, ?_, v5, s1.tr s5⟩
      rw [fX12_works_b69]
      simp (disch := omega) only [y_lit, y_lt_T, y_lt_F, y_le_T, y_le_F, y_eq_T, y_eq_F, y_in_T, y_cl, ↓reduceIte, y_bs, y_bvs, y_os, y_on, y_t, ne_eq, not_true_eq_false, not_false_eq_true, pk_mul, nI_add]
      rw [e1]
      simp (disch := omega) only [y_lit, y_lt_T, y_lt_F, y_le_T, y_le_F, y_eq_T, y_eq_F, y_in_T, y_cl, ↓reduceIte, y_bs, y_bvs, y_os, y_on, y_t, ne_eq, not_true_eq_false, not_false_eq_true, pk_mul, nI_add]
      rw [cn]
      simp (disch := omega) only [y_lit, y_lt_T, y_lt_F, y_le_T, y_le_F, y_eq_T, y_eq_F, y_in_T, y_cl, ↓reduceIte, y_bs, y_bvs, y_os, y_on, y_t, ne_eq, not_true_eq_false, not_false_eq_true, pk_mul, nI_add, fX12_works_b319]
      exact f5
theorem sX12_works_b8 (h : v_ok nc E) {x : Int32} {c : Nat → Bool} (hcw : CW E c) (hcc : ∀ b, 1536 ≤ b → CC E c b) : ∀ (n a q : Nat) (N : QM), a + n = 13824 → 1536 ≤ a → n < q → PY N E c0 c1 → CM N c → (∀ b, b < a → c b = true → VA1 N E x b) →
    qV (fX12_works_b8 q N x (nI a)) (fun N1 => (∀ b, c b = true → VA1 N1 E x b) ∧ PY N1 E c0 c1 ∧ kp SV N N1) := by
  intro n
  induction n with
  | zero =>
    intro a q N ha h1 hq P hC hV
    obtain ⟨q, rfl⟩ : ∃ p, q = p + 1 := ⟨q - 1, by omega⟩
    have e : a = 13824 := ha
    subst e
    simp (disch := omega) only [fX12_works_b8, y_lit, y_lt_T, y_lt_F, y_le_T, y_le_F, y_eq_T, y_eq_F, y_in_T, y_cl, ↓reduceIte, y_bs, y_bvs, y_os, y_on, y_t, ne_eq, not_true_eq_false, not_false_eq_true, pk_mul, nI_add]
    exact qV_s ⟨fun b hb => hV b (hcw b hb).1 hb, P, kp.rf⟩
  | succ n ih =>
    intro a q N ha h1 hq P hC hV
    obtain ⟨q, rfl⟩ : ∃ p, q = p + 1 := ⟨q - 1, by omega⟩
    have ec := hC a (by omega)
    by_cases ca : c a = true
    · rw [if_pos ca] at ec
      have hw := (hcw a ca).2
      have hl0 := (hw.2 rfl).2.1
      let N0 : QM := p_a (p_l (p_a (p_a N 1000 38 a (-nI 1)) 1000 39 a (nI 0)) 1000 40 a (lN 0)) 1000 41 a (nI 99)
      have s0 : SC N N0 a := (((SC.a (by decide) _).tr (SC.a (by decide) _)).tr (SC.l _)).tr (SC.a (by decide) _)
      obtain ⟨N1, e1, R1, k1⟩ := sX12_goTo N0 (show a < 13824 by omega)
      have k1D : kp SD N0 N1 := k1.wd (fun a j z => ⟨z.1, Or.inr z.2⟩)
      have s1 : SC N N1 a := s0.tr (SC.k k1D (fun a j z => z))
      have P1 := P.keptV s1.1 (fun a j z => SCk_V z)
      have hlu := s_pl_b hw.1
      rw [s_pl_up] at hlu
      obtain ⟨N2, f2, v2, s2⟩ := sX12_works_b69 h (x := x) (at' := a) (K := fun M x1 x2 => fX12_works_b8 q M x1 x2) (by omega) hw 11 0 q_F N1 (by decide) (q_Fn (by decide)) P1 (fun m hm hc he => (hV _ (by
            have := s_pl_b (v_a_w h hw hc true).1
            have := v_a_l he
            omega) (hcc a h1 ca m hm hc he)).sc s1 (by
            have := s_pl_b (v_a_w h hw hc true).1
            have := v_a_l he
            omega)) (by
            show q_a N1 1000 38 a = -nI 1
            rw [k1D.a (by unfold SD; omega)]
            show q_a (p_a (p_l (p_a (p_a N 1000 38 a (-nI 1)) 1000 39 a (nI 0)) 1000 40 a (lN 0)) 1000 41 a (nI 99)) 1000 38 a = _
            simp [q_a_p_a, q_a_p_l]) (by
            rw [k1D.a (by unfold SD; omega)]
            show q_a (p_a (p_l (p_a (p_a N 1000 38 a (-nI 1)) 1000 39 a (nI 0)) 1000 40 a (lN 0)) 1000 41 a (nI 99)) 1000 39 a = _
            simp [q_a_p_a, q_a_p_l]; rfl) (by
            rw [k1D.l (by unfold SD; omega)]
            show q_l (p_a (p_l (p_a (p_a N 1000 38 a (-nI 1)) 1000 39 a (nI 0)) 1000 40 a (lN 0)) 1000 41 a (nI 99)) 1000 40 a = _
            simp [q_l_p_a, q_l_p_l]; rfl) (by
            rw [k1D.a (by unfold SD; omega)]
            show q_a (p_a (p_l (p_a (p_a N 1000 38 a (-nI 1)) 1000 39 a (nI 0)) 1000 40 a (lN 0)) 1000 41 a (nI 99)) 1000 41 a = _
            simp [q_a_p_a]; rfl)
      have sT := s1.tr s2
      have PN2 := P.keptV sT.1 (fun a j z => SCk_V z)
      obtain ⟨N3, f3, g1, g2, g3⟩ := ih (a + 1) q N2 (by omega) (by omega) (by omega) PN2 (fun i hi => (sT.1.a (by unfold SCk; omega)).trans (hC i hi)) (fun b hb hcb => by
        by_cases e : b = a
        · subst e
          exact v2
        · exact (hV b (by omega) hcb).sc sT e)
      refine ⟨N3, ?_, g1, g2, (sT.1.wd (fun a j z => SCk_V z)).tr g3⟩
      have e1' : fX12_goTo (p_a (p_l (p_a (p_a N 1000 38 a (-nI 1)) 1000 39 a (nI 0)) 1000 40 a (lN 0)) 1000 41 a (nI 99)) (nI a) = some N1 := e1
      rw [fX12_works_b8]
      simp (disch := omega) only [y_lit, y_lt_T, y_lt_F, y_le_T, y_le_F, y_eq_T, y_eq_F, y_in_T, y_cl, ↓reduceIte, y_bs, y_bvs, y_os, y_on, y_t, ne_eq, not_true_eq_false, not_false_eq_true, pk_mul, nI_add, ec, y_lit64]
      rw [e1']
      simp (disch := omega) only [y_lit, y_lt_T, y_lt_F, y_le_T, y_le_F, y_eq_T, y_eq_F, y_in_T, y_cl, ↓reduceIte, y_bs, y_bvs, y_os, y_on, y_t, ne_eq, not_true_eq_false, not_false_eq_true, pk_mul, nI_add, R1.2.1 rfl]
      exact f2.trans f3
    · rw [if_neg ca] at ec
      obtain ⟨N3, f3, g1, g2, g3⟩ := ih (a + 1) q N (by omega) (by omega) (by omega) P hC (fun b hb hcb => by
        by_cases e : b = a
        · subst e
          exact absurd hcb ca
        · exact hV b (by omega) hcb)
      refine ⟨N3, ?_, g1, g2, g3⟩
      rw [fX12_works_b8]
      simp (disch := omega) only [y_lit, y_lt_T, y_lt_F, y_le_T, y_le_F, y_eq_T, y_eq_F, y_in_T, y_cl, ↓reduceIte, y_bs, y_bvs, y_os, y_on, y_t, ne_eq, not_true_eq_false, not_false_eq_true, pk_mul, nI_add, ec, fX12_works_b325]
      exact f3
theorem sX12_works (h : v_ok nc E) (P : PY M E c0 c1) {x : Int32} {c : Nat → Bool} (hc : CM M c) (hcw : CW E c) : qV (fX12_works M x) (fun N1 => (∃ c', CW E c' ∧ (∀ b, c b = true → c' b = true) ∧ (∀ b, 1536 ≤ b → CC E c' b) ∧ ∀ b, c' b = true → VA1 N1 E x b) ∧ PY N1 E c0 c1 ∧ kp SV M N1) := by
  have lowM : ∀ {c : Nat → Bool}, CW E c → ∀ b, c b = true → 1536 ≤ b := fun w b hb => by
    have hw := (w b hb).2
    have := (hw.2 rfl).2.1
    have hlu := s_pl_b hw.1
    rw [s_pl_up] at hlu
    omega
  obtain ⟨N1, e1, c', C1, W1, m1, cc1, k1⟩ := sX12_spreads h P hc hcw
  have k1V : kp SV M N1 := k1.wd (fun a j z => by
    rcases z with z | z
    · exact SD_V z
    · unfold SV; omega)
  have P1 := P.keptV k1V (fun a j z => z)
  obtain ⟨N2, e2, v2, p2, k2⟩ := sX12_works_b8 h (x := x) W1 cc1 12288 1536 q_F N1 (by decide) (by decide) (q_Fn (by decide)) P1 C1 (fun b hb hcb => by have := lowM W1 b hcb; omega)
  refine ⟨N2, ?_, ⟨c', W1, m1, cc1, v2⟩, p2, k1V.tr k2⟩
  unfold fX12_works
  rw [e1, q_bv_s]
  exact e2
end WORKS2
