/-! the WALK: what holds on the way -/
def s_1 (E : EV) (s : ST) (m : Nat) : ST := v_a E s m true
def W_s (E : EV) (o : Nat) (s : ST) (m : Nat) : Nat := o_S (v_can E s) (fun m => v_W E (nI o) (v_a E s m true)) m
def u_f {α : Type} (f : Nat → α) (k : Nat) (v : α) : Nat → α := fun i => if i = k then v else f i
theorem u_f_e {α : Type} (f : Nat → α) (k : Nat) (v : α) : u_f f k v k = v := if_pos rfl
theorem u_f_n {α : Type} (f : Nat → α) {k i : Nat} (v : α) (h : i ≠ k) : u_f f k v i = f i := if_neg h
/-- behind the moves before m of the place i: what waits -/
def WI1 (E : EV) (n : Nat) (σ : Nat → ST) (c : Nat → Nat) (i : Nat) : Prop := (∀ j, j < n → v_w E (σ j) ∧ s_e (σ j) = 0 ∧ 0 < c j ∧ s_l (σ i) ≤ s_l (σ j) + 1) ∧ ∀ j k, j ≤ k → k < n → s_l (σ k) ≤ s_l (σ j)
def WI2 (E : EV) (n : Nat) (σ : Nat → ST) (g : Nat → Nat) (a : Nat) : Prop := (∀ j, 0 < j → j < n → ∃ i m, g j = 16 * i + m ∧ i < j ∧ g j < a ∧ v_can E (σ i) m = true ∧ σ j = s_1 E (σ i) m) ∧ ∀ j k, 0 < j → j < k → k < n → g j < g k
def WI3 (E : EV) (n : Nat) (σ : Nat → ST) (g T F : Nat → Nat) (a : Nat) : Prop := ∀ i m, i < n → 16 * i + m < a → v_can E (σ i) m = true → (s_e (s_1 E (σ i) m) = 0 → ∃ j, 0 < j ∧ j < n ∧ σ j = s_1 E (σ i) m ∧ g j ≤ 16 * i + m) ∧ (¬ s_e (s_1 E (σ i) m) = 0 → T (s_u (s_1 E (σ i) m)) ≠ 0 ∧ F (s_u (s_1 E (σ i) m)) ≤ 16 * i + m)
def WI4 (E : EV) (n : Nat) (σ : Nat → ST) (T F : Nat → Nat) (a : Nat) : Prop := ∀ o, o < 20 → T o ≠ 0 → ∃ i m, F o = 16 * i + m ∧ i < n ∧ F o < a ∧ v_can E (σ i) m = true ∧ ¬ s_e (s_1 E (σ i) m) = 0 ∧ s_u (s_1 E (σ i) m) = o
def WI5 (E : EV) (s0 : ST) (n : Nat) (σ : Nat → ST) (c T : Nat → Nat) (i m : Nat) : Prop := ∀ o, o < 20 → T o + sm (fun j => c j * v_W E (nI o) (σ j)) (i + 1) n + c i * W_s E o (σ i) 11 = v_W E (nI o) s0 + c i * W_s E o (σ i) m
def WI (E : EV) (s0 : ST) (n : Nat) (σ : Nat → ST) (c g T F : Nat → Nat) (i m : Nat) : Prop := i < n ∧ σ 0 = s0 ∧ WI1 E n σ c i ∧ WI2 E n σ g (16 * i + m) ∧ WI3 E n σ g T F (16 * i + m) ∧ WI4 E n σ T F (16 * i + m) ∧ WI5 E s0 n σ c T i m
theorem W_s_s {E : EV} {o : Nat} {s : ST} {m : Nat} : W_s E o s (m + 1) = if v_can E s m = true then W_s E o s m + v_W E (nI o) (s_1 E s m) else W_s E o s m := rfl
section WALKI
variable {nc n i m : Nat} {E : EV} {s0 : ST} {σ : Nat → ST} {c g T F : Nat → Nat}
/-- a move that cannot be done -/
theorem WI.skip (h : WI E s0 n σ c g T F i m) (hm : m < 11) (hc : v_can E (σ i) m = false) : WI E s0 n σ c g T F i (m + 1) := by
  obtain ⟨h1, h2, h3, h4, h5, h6, h7⟩ := h
  refine ⟨h1, h2, h3, ⟨fun j a b => ?_, h4.2⟩, fun i2 m2 a b d => ?_, fun o a b => ?_, fun o a => ?_⟩
  · obtain ⟨i2, m2, e1, e2, e3, e4⟩ := h4.1 j a b
    exact ⟨i2, m2, e1, e2, by omega, e4⟩
  · have hm2 := v_can_11 d
    by_cases e : 16 * i2 + m2 = 16 * i + m
    · obtain ⟨rfl, rfl⟩ : i2 = i ∧ m2 = m := by omega
      rw [d] at hc
      cases hc
    · exact h5 i2 m2 a (by omega) d
  · obtain ⟨i2, m2, e1, e2, e3, e4⟩ := h6 o a b
    exact ⟨i2, m2, e1, e2, by omega, e4⟩
  · rw [W_s_s (m := m), if_neg (by rw [hc]; decide)]
    exact h7 o a
theorem WI.w (hv : v_ok nc E) (h : WI E s0 n σ c g T F i m) (hm : v_can E (σ i) m = true) : v_w E (s_1 E (σ i) m) := v_a_w hv (h.2.2.1.1 i h.1).1 hm true
/-- it ends so -/
theorem WI.reach (hv : v_ok nc E) (h : WI E s0 n σ c g T F i m) (hm : v_can E (σ i) m = true) (he : ¬ s_e (s_1 E (σ i) m) = 0) {u : Nat} (hu : s_u (s_1 E (σ i) m) = u) :
    WI E s0 n σ c g (u_f T u (T u + c i)) (u_f F u (if T u = 0 then 16 * i + m else F u)) i (m + 1) := by
  have hu20 : u < 20 := by
    rw [← hu]
    exact s_u_lt (WI.w hv h hm).1
  obtain ⟨h1, h2, h3, h4, h5, h6, h7⟩ := h
  have hci := (h3.1 i h1).2.2.1
  have hm1 := v_can_11 hm
  refine ⟨h1, h2, h3, ⟨fun j a b => ?_, h4.2⟩, fun i2 m2 a b d => ?_, fun o a b => ?_, fun o a => ?_⟩
  · obtain ⟨i2, m2, e1, e2, e3, e4⟩ := h4.1 j a b
    exact ⟨i2, m2, e1, e2, by omega, e4⟩
  · have hm2 := v_can_11 d
    by_cases e : 16 * i2 + m2 = 16 * i + m
    · obtain ⟨rfl, rfl⟩ : i2 = i ∧ m2 = m := by omega
      refine ⟨fun z => absurd z he, fun _ => ?_⟩
      rw [hu, u_f_e, u_f_e]
      refine ⟨by omega, ?_⟩
      by_cases c0 : T u = 0
      · rw [if_pos c0]
        exact Nat.le_refl _
      · rw [if_neg c0]
        obtain ⟨i3, m3, e1, e2, e3, e4⟩ := h6 u hu20 c0
        omega
    · obtain ⟨g1, g2⟩ := h5 i2 m2 a (by omega) d
      refine ⟨g1, fun z => ?_⟩
      obtain ⟨g3, g4⟩ := g2 z
      by_cases e : s_u (s_1 E (σ i2) m2) = u
      · rw [e] at g3 g4 ⊢
        rw [u_f_e, u_f_e, if_neg g3]
        exact ⟨by omega, g4⟩
      · rw [u_f_n _ _ e, u_f_n _ _ e]
        exact ⟨g3, g4⟩
  · by_cases e : o = u
    · subst e
      rw [u_f_e]
      by_cases c0 : T o = 0
      · rw [if_pos c0]
        exact ⟨i, m, rfl, h1, by omega, hm, he, hu⟩
      · rw [if_neg c0]
        obtain ⟨i3, m3, e1, e2, e3, e4⟩ := h6 o hu20 c0
        exact ⟨i3, m3, e1, e2, by omega, e4⟩
    · rw [u_f_n _ _ e] at b ⊢
      obtain ⟨i3, m3, e1, e2, e3, e4⟩ := h6 o a b
      exact ⟨i3, m3, e1, e2, by omega, e4⟩
  · have z := h7 o a
    rw [W_s_s (m := m), if_pos hm, Nat.mul_add, v_W_e he, hu]
    by_cases e : o = u
    · subst e
      rw [u_f_e, if_pos rfl]
      omega
    · rw [u_f_n _ _ e, if_neg (fun q => e ((nI_eq (by omega) (by omega)).mp q).symm)]
      omega
theorem WI.low (h : WI E s0 n σ c g T F i m) (hm : v_can E (σ i) m = true) (he : s_e (s_1 E (σ i) m) = 0) : s_l (s_1 E (σ i) m) + 1 = s_l (σ i) := by
  have h1 := (h.2.2.1.1 i h.1)
  have h2 := (h1.1.2 h1.2.1).2.1
  have h3 : s_l (s_1 E (σ i) m) = s_l (σ i) - 1 := v_a_l he
  omega
/-- it goes on so, and that is there already -/
theorem WI.more (h : WI E s0 n σ c g T F i m) (hm : v_can E (σ i) m = true) (he : s_e (s_1 E (σ i) m) = 0) {k : Nat} (hk : k < n) (e : σ k = s_1 E (σ i) m) :
    WI E s0 n σ (u_f c k (c k + c i)) g T F i (m + 1) := by
  have hl := h.low hm he
  obtain ⟨h1, h2, h3, h4, h5, h6, h7⟩ := h
  have hm1 := v_can_11 hm
  have hki : i < k := by
    by_cases q : i < k
    · exact q
    · have := h3.2 k i (by omega) h1
      rw [e] at this
      omega
  have hgk : g k < 16 * i + m := by
    obtain ⟨i2, m2, e1, e2, e3, e4⟩ := h4.1 k (by omega) hk
    exact e3
  refine ⟨h1, h2, ⟨fun j a => ?_, h3.2⟩, ⟨fun j a b => ?_, h4.2⟩, fun i2 m2 a b d => ?_, fun o a b => ?_, fun o a => ?_⟩
  · obtain ⟨g1, g2, g3, g4⟩ := h3.1 j a
    refine ⟨g1, g2, ?_, g4⟩
    by_cases q : j = k
    · subst q
      rw [u_f_e]
      omega
    · rw [u_f_n _ _ q]
      exact g3
  · obtain ⟨i2, m2, e1, e2, e3, e4⟩ := h4.1 j a b
    exact ⟨i2, m2, e1, e2, by omega, e4⟩
  · have hm2 := v_can_11 d
    by_cases q : 16 * i2 + m2 = 16 * i + m
    · obtain ⟨rfl, rfl⟩ : i2 = i ∧ m2 = m := by omega
      exact ⟨fun _ => ⟨k, by omega, hk, e, by omega⟩, fun z => absurd he z⟩
    · exact h5 i2 m2 a (by omega) d
  · obtain ⟨i3, m3, e1, e2, e3, e4⟩ := h6 o a b
    exact ⟨i3, m3, e1, e2, by omega, e4⟩
  · have z := h7 o a
    rw [W_s_s (m := m), if_pos hm, u_f_n _ _ (show i ≠ k by omega), Nat.mul_add, sm_up (f := fun j => c j * v_W E (nI o) (σ j)) (k := k) (d := c i * v_W E (nI o) (s_1 E (σ i) m)) (by omega) ?_ ?_ n hk]
    · omega
    · simp only [u_f_e]
      rw [Nat.add_mul, e]
    · intro j hj
      simp only [u_f_n _ _ hj]
/-- it goes on so, and that is new -/
theorem WI.new (hv : v_ok nc E) (h : WI E s0 n σ c g T F i m) (hm : v_can E (σ i) m = true) (he : s_e (s_1 E (σ i) m) = 0) :
    WI E s0 (n + 1) (u_f σ n (s_1 E (σ i) m)) (u_f c n (c i)) (u_f g n (16 * i + m)) T F i (m + 1) := by
  have hl := h.low hm he
  have hw := WI.w hv h hm
  obtain ⟨h1, h2, h3, h4, h5, h6, h7⟩ := h
  have hm1 := v_can_11 hm
  have hci := (h3.1 i h1).2.2.1
  have eσ : ∀ j, j < n → u_f σ n (s_1 E (σ i) m) j = σ j := fun j hj => u_f_n _ _ (by omega)
  have ei := eσ i h1
  refine ⟨by omega, ?_, ⟨fun j a => ?_, fun j k a b => ?_⟩, ⟨fun j a b => ?_, fun j k a b d => ?_⟩, fun i2 m2 a b d => ?_, fun o a b => ?_, fun o a => ?_⟩
  · rw [eσ 0 (by omega)]
    exact h2
  · rw [ei]
    by_cases q : j = n
    · subst q
      rw [u_f_e, u_f_e]
      exact ⟨hw, he, hci, by omega⟩
    · rw [u_f_n _ _ q, u_f_n _ _ q]
      exact h3.1 j (by omega)
  · by_cases q : k = n
    · subst q
      rw [u_f_e]
      by_cases q2 : j = k
      · subst q2
        rw [u_f_e]
        exact Nat.le_refl _
      · rw [u_f_n _ _ q2]
        have := (h3.1 j (by omega)).2.2.2
        omega
    · rw [u_f_n _ _ q, u_f_n _ _ (show j ≠ n by omega)]
      exact h3.2 j k a (by omega)
  · by_cases q : j = n
    · subst q
      rw [u_f_e, u_f_e]
      refine ⟨i, m, rfl, h1, by omega, ?_, ?_⟩
      · rw [ei]
        exact hm
      · rw [ei]
    · rw [u_f_n _ _ q, u_f_n _ _ q]
      obtain ⟨i2, m2, e1, e2, e3, e4, e5⟩ := h4.1 j a (by omega)
      refine ⟨i2, m2, e1, e2, by omega, ?_, ?_⟩
      · rw [eσ i2 (by omega)]
        exact e4
      · rw [eσ i2 (by omega)]
        exact e5
  · by_cases q : k = n
    · subst q
      rw [u_f_e, u_f_n _ _ (show j ≠ k by omega)]
      obtain ⟨i2, m2, e1, e2, e3, e4, e5⟩ := h4.1 j a (by omega)
      exact e3
    · rw [u_f_n _ _ q, u_f_n _ _ (show j ≠ n by omega)]
      exact h4.2 j k a b (by omega)
  · have hm2 := v_can_11 d
    have hi2 : i2 < n := by omega
    rw [eσ i2 hi2] at d ⊢
    by_cases q : 16 * i2 + m2 = 16 * i + m
    · obtain ⟨rfl, rfl⟩ : i2 = i ∧ m2 = m := by omega
      exact ⟨fun _ => ⟨n, by omega, by omega, u_f_e _ _ _, by rw [u_f_e]; exact Nat.le_refl _⟩, fun z => absurd he z⟩
    · obtain ⟨g1, g2⟩ := h5 i2 m2 hi2 (by omega) d
      refine ⟨fun z => ?_, g2⟩
      obtain ⟨j, f1, f2, f3, f4⟩ := g1 z
      exact ⟨j, f1, by omega, (eσ j f2).trans f3, by rw [u_f_n _ _ (show j ≠ n by omega)]; exact f4⟩
  · obtain ⟨i3, m3, e1, e2, e3, e4, e5⟩ := h6 o a b
    refine ⟨i3, m3, e1, by omega, by omega, ?_, ?_⟩
    · rw [eσ i3 e2]
      exact e4
    · rw [eσ i3 e2]
      exact e5
  · have z := h7 o a
    rw [ei, W_s_s (m := m), if_pos hm, u_f_n _ _ (show i ≠ n by omega), Nat.mul_add]
    have z2 : sm (fun j => u_f c n (c i) j * v_W E (nI o) (u_f σ n (s_1 E (σ i) m) j)) (i + 1) (n + 1) = sm (fun j => c j * v_W E (nI o) (σ j)) (i + 1) n + c i * v_W E (nI o) (s_1 E (σ i) m) := by
      rw [sm, if_pos (by omega), u_f_e, u_f_e]
      rw [sm_e (g := fun j => c j * v_W E (nI o) (σ j)) n (fun j a b => by simp only [u_f_n _ _ (show j ≠ n by omega)])]
    rw [z2]
    omega
/-- the next place -/
theorem WI.next (h : WI E s0 n σ c g T F i 11) (hi : i + 1 < n) : WI E s0 n σ c g T F (i + 1) 0 := by
  obtain ⟨h1, h2, h3, h4, h5, h6, h7⟩ := h
  refine ⟨hi, h2, ⟨fun j a => ?_, h3.2⟩, ⟨fun j a b => ?_, h4.2⟩, fun i2 m2 a b d => ?_, fun o a b => ?_, fun o a => ?_⟩
  · obtain ⟨g1, g2, g3, g4⟩ := h3.1 j a
    refine ⟨g1, g2, g3, ?_⟩
    have := h3.2 i (i + 1) (by omega) hi
    omega
  · obtain ⟨i2, m2, e1, e2, e3, e4⟩ := h4.1 j a b
    exact ⟨i2, m2, e1, e2, by omega, e4⟩
  · have hm2 := v_can_11 d
    exact h5 i2 m2 a (by omega) d
  · obtain ⟨i3, m3, e1, e2, e3, e4⟩ := h6 o a b
    exact ⟨i3, m3, e1, e2, by omega, e4⟩
  · have z := h7 o a
    have hs := (h3.1 (i + 1) hi)
    rw [sm_lo n hi] at z
    have e : v_W E (nI o) (σ (i + 1)) = W_s E o (σ (i + 1)) 11 := v_W_s hs.2.1 (hs.1.2 hs.2.1).2.1
    rw [e] at z
    show _ = v_W E (nI o) s0 + c (i + 1) * 0
    omega
/-- what is reached is no more than the ways -/
theorem WI.le (h : WI E s0 n σ c g T F i m) (hm : m ≤ 11) {o : Nat} (ho : o < 20) : T o ≤ v_W E (nI o) s0 := by
  have z := h.2.2.2.2.2.2 o ho
  have z2 : c i * W_s E o (σ i) m ≤ c i * W_s E o (σ i) 11 := Nat.mul_le_mul_left _ (o_S_le hm)
  omega
/-- at the end -/
theorem WI.fin (h : WI E s0 n σ c g T F i 11) (hi : n = i + 1) {o : Nat} (ho : o < 20) : T o = v_W E (nI o) s0 := by
  have z := h.2.2.2.2.2.2 o ho
  rw [sm_0 n (by omega)] at z
  omega
/-- at the start -/
theorem WI.init (hw : v_w E s0) (h0 : s_e s0 = 0) {T F : Nat → Nat} (hT : ∀ o, o < 20 → T o = 0) (hσ : σ 0 = s0) (hc : c 0 = 1) : WI E s0 1 σ c g T F 0 0 := by
  refine ⟨by decide, hσ, ⟨fun j a => ?_, fun j k a b => ?_⟩, ⟨fun j a b => by omega, fun j k a b d => by omega⟩, fun i2 m2 a b d => by omega, fun o a b => absurd (hT o a) b, fun o a => ?_⟩
  · have e : j = 0 := by omega
    subst e
    rw [hσ, hc]
    exact ⟨hw, h0, by decide, by omega⟩
  · have e : j = k := by omega
    subst e
    exact Nat.le_refl _
  · have e : v_W E (nI o) s0 = W_s E o s0 11 := v_W_s h0 (hw.2 h0).2.1
    rw [hT o a, hσ, hc, e, sm_0 1 (Nat.le_refl _)]
    show 0 + 0 + 1 * _ = _ + 1 * 0
    omega
end WALKI
