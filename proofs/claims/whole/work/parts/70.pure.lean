/-! THE PURE PART, its tools: 'a runs to its end, and P holds there', frames, numbers -/
def qW {α : Type} (a : Option (α × QM)) (P : α → QM → Prop) : Prop := ∃ r M, a = some (r, M) ∧ P r M
def qV (a : Option QM) (P : QM → Prop) : Prop := ∃ M, a = some M ∧ P M
theorem qW_s {α : Type} {r : α} {M : QM} {P : α → QM → Prop} (h : P r M) : qW (some (r, M)) P := ⟨r, M, rfl, h⟩
theorem qV_s {M : QM} {P : QM → Prop} (h : P M) : qV (some M) P := ⟨M, rfl, h⟩
theorem qW_b {α β : Type} {a : Option (α × QM)} {f : α → QM → Option (β × QM)} {P : β → QM → Prop} (h : qW a (fun r M => qW (f r M) P)) : qW (q_b a f) P := by
  obtain ⟨r, M, e, h⟩ := h
  subst e
  exact h
theorem qV_b {α : Type} {a : Option (α × QM)} {f : α → QM → Option QM} {P : QM → Prop} (h : qW a (fun r M => qV (f r M) P)) : qV (q_b a f) P := by
  obtain ⟨r, M, e, h⟩ := h
  subst e
  exact h
theorem qW_bv {β : Type} {a : Option QM} {f : QM → Option (β × QM)} {P : β → QM → Prop} (h : qV a (fun M => qW (f M) P)) : qW (q_bv a f) P := by
  obtain ⟨M, e, h⟩ := h
  subst e
  exact h
theorem qV_bv {a : Option QM} {f : QM → Option QM} {P : QM → Prop} (h : qV a (fun M => qV (f M) P)) : qV (q_bv a f) P := by
  obtain ⟨M, e, h⟩ := h
  subst e
  exact h
theorem qW_t {α β : Type} {a : α} {f : α → Option (β × QM)} {P : β → QM → Prop} (h : qW (f a) P) : qW (q_t a f) P := h
theorem qV_t {α : Type} {a : α} {f : α → Option QM} {P : QM → Prop} (h : qV (f a) P) : qV (q_t a f) P := h
theorem qW_c {α : Type} {c : Prop} [Decidable c] {A B : Option (α × QM)} {P : α → QM → Prop} (ht : c → qW A P) (hf : ¬ c → qW B P) : qW (if c then A else B) P := by
  by_cases h : c
  · rw [if_pos h]; exact ht h
  · rw [if_neg h]; exact hf h
theorem qV_c {c : Prop} [Decidable c] {A B : Option QM} {P : QM → Prop} (ht : c → qV A P) (hf : ¬ c → qV B P) : qV (if c then A else B) P := by
  by_cases h : c
  · rw [if_pos h]; exact ht h
  · rw [if_neg h]; exact hf h
theorem qW_y {α : Type} {c : Prop} [Decidable c] {A B : Option (α × QM)} {P : α → QM → Prop} (h : c) (ht : qW A P) : qW (if c then A else B) P := by rw [if_pos h]; exact ht
theorem qW_n {α : Type} {c : Prop} [Decidable c] {A B : Option (α × QM)} {P : α → QM → Prop} (h : ¬ c) (ht : qW B P) : qW (if c then A else B) P := by rw [if_neg h]; exact ht
theorem qV_y {c : Prop} [Decidable c] {A B : Option QM} {P : QM → Prop} (h : c) (ht : qV A P) : qV (if c then A else B) P := by rw [if_pos h]; exact ht
theorem qV_n {c : Prop} [Decidable c] {A B : Option QM} {P : QM → Prop} (h : ¬ c) (ht : qV B P) : qV (if c then A else B) P := by rw [if_neg h]; exact ht
theorem qW.to {α : Type} {a : Option (α × QM)} {P Q : α → QM → Prop} (h : qW a P) (k : ∀ r M, P r M → Q r M) : qW a Q := by
  obtain ⟨r, M, e, h⟩ := h
  exact ⟨r, M, e, k r M h⟩
theorem qV.to {a : Option QM} {P Q : QM → Prop} (h : qV a P) (k : ∀ M, P M → Q M) : qV a Q := by
  obtain ⟨M, e, h⟩ := h
  exact ⟨M, e, k M h⟩
/-- a call whose answer is told by a row: 'qW_k row fun r M h => ..' -/
theorem qW_k {α β : Type} {a : Option (α × QM)} {f : α → QM → Option (β × QM)} {Q : α → QM → Prop} {P : β → QM → Prop} (h : qW a Q) (k : ∀ r M, Q r M → qW (f r M) P) : qW (q_b a f) P := qW_b (h.to k)
theorem qV_k {α : Type} {a : Option (α × QM)} {f : α → QM → Option QM} {Q : α → QM → Prop} {P : QM → Prop} (h : qW a Q) (k : ∀ r M, Q r M → qV (f r M) P) : qV (q_b a f) P := qV_b (h.to k)
theorem qW_kv {β : Type} {a : Option QM} {f : QM → Option (β × QM)} {Q : QM → Prop} {P : β → QM → Prop} (h : qV a Q) (k : ∀ M, Q M → qW (f M) P) : qW (q_bv a f) P := qW_bv (h.to k)
theorem qV_kv {a : Option QM} {f : QM → Option QM} {Q : QM → Prop} {P : QM → Prop} (h : qV a Q) (k : ∀ M, Q M → qV (f M) P) : qV (q_bv a f) P := qV_bv (h.to k)
/-- a call whose answer is told by an equation -/
theorem qW_e {α β : Type} {a : Option (α × QM)} {f : α → QM → Option (β × QM)} {r : α} {M : QM} {P : β → QM → Prop} (h : a = some (r, M)) (k : qW (f r M) P) : qW (q_b a f) P := by rw [h]; exact k
theorem qV_e {α : Type} {a : Option (α × QM)} {f : α → QM → Option QM} {r : α} {M : QM} {P : QM → Prop} (h : a = some (r, M)) (k : qV (f r M) P) : qV (q_b a f) P := by rw [h]; exact k
theorem q_b_s {α β : Type} (r : α) (M : QM) (f : α → QM → Option β) : q_b (some (r, M)) f = f r M := rfl
theorem q_bv_s {β : Type} (M : QM) (f : QM → Option β) : q_bv (some M) f = f M := rfl
theorem q_o_n {β : Type} (n : Option β) (f : Nat → Option β) : q_o none n f = n := rfl
theorem q_o_s {β : Type} (a : Nat) (n : Option β) (f : Nat → Option β) : q_o (some a) n f = f a := rfl
/-! frames: M1 is M but for the fields (and their arrays) in S -/
def kp (S : Nat → Nat → Prop) (M M1 : QM) : Prop := ∀ o j, ¬ S o j → q_i M1 o j = q_i M o j ∧ (∀ i, q_a M1 o j i = q_a M o j i) ∧ (∀ i, q_l M1 o j i = q_l M o j i) ∧ q_r M1 o j = q_r M o j
theorem kp.rf {S : Nat → Nat → Prop} {M : QM} : kp S M M := fun _ _ _ => ⟨rfl, fun _ => rfl, fun _ => rfl, rfl⟩
theorem kp.tr {S : Nat → Nat → Prop} {M M1 M2 : QM} (h : kp S M M1) (g : kp S M1 M2) : kp S M M2 := fun o j hs =>
  ⟨(g o j hs).1.trans (h o j hs).1, fun i => ((g o j hs).2.1 i).trans ((h o j hs).2.1 i), fun i => ((g o j hs).2.2.1 i).trans ((h o j hs).2.2.1 i), (g o j hs).2.2.2.trans (h o j hs).2.2.2⟩
theorem kp.wd {S T : Nat → Nat → Prop} {M M1 : QM} (h : kp S M M1) (w : ∀ o j, S o j → T o j) : kp T M M1 := fun o j hs => h o j (fun hq => hs (w o j hq))
theorem kp.i {S : Nat → Nat → Prop} {M M1 : QM} (h : kp S M M1) {o j : Nat} (hs : ¬ S o j) : q_i M1 o j = q_i M o j := (h o j hs).1
theorem kp.a {S : Nat → Nat → Prop} {M M1 : QM} (h : kp S M M1) {o j i : Nat} (hs : ¬ S o j) : q_a M1 o j i = q_a M o j i := (h o j hs).2.1 i
theorem kp.l {S : Nat → Nat → Prop} {M M1 : QM} (h : kp S M M1) {o j i : Nat} (hs : ¬ S o j) : q_l M1 o j i = q_l M o j i := (h o j hs).2.2.1 i
theorem kp.r {S : Nat → Nat → Prop} {M M1 : QM} (h : kp S M M1) {o j : Nat} (hs : ¬ S o j) : q_r M1 o j = q_r M o j := (h o j hs).2.2.2
theorem kp_i {S : Nat → Nat → Prop} {M : QM} {o j : Nat} {v : Int32} (h : S o j) : kp S M (p_i M o j v) := fun a b hs => by
  refine ⟨?_, fun _ => rfl, fun _ => rfl, rfl⟩
  rw [q_i_p_i, if_neg (fun q => hs (by rw [q.1, q.2]; exact h))]
theorem kp_a {S : Nat → Nat → Prop} {M : QM} {o j i : Nat} {v : Int32} (h : S o j) : kp S M (p_a M o j i v) := fun a b hs => by
  refine ⟨rfl, fun k => ?_, fun _ => rfl, rfl⟩
  rw [q_a_p_a, if_neg (fun q => hs (by rw [q.1, q.2.1]; exact h))]
theorem kp_l {S : Nat → Nat → Prop} {M : QM} {o j i : Nat} {v : Int64} (h : S o j) : kp S M (p_l M o j i v) := fun a b hs => by
  refine ⟨rfl, fun _ => rfl, fun k => ?_, rfl⟩
  rw [q_l_p_l, if_neg (fun q => hs (by rw [q.1, q.2.1]; exact h))]
theorem kp_r {S : Nat → Nat → Prop} {M : QM} {o j : Nat} {v : Nat} (h : S o j) : kp S M (p_r M o j v) := fun a b hs => by
  refine ⟨rfl, fun _ => rfl, fun _ => rfl, ?_⟩
  rw [q_r_p_r, if_neg (fun q => hs (by rw [q.1, q.2]; exact h))]
/-! numbers -/
theorem nI_or (a b : Nat) : nI a ||| nI b = nI (a ||| b) := by
  apply Int32.toBitVec_inj.1
  apply BitVec.eq_of_toNat_eq
  simp [nI, Int32.toBitVec_or, Int32.toBitVec_ofNat', BitVec.toNat_or, BitVec.toNat_ofNat, Nat.or_mod_two_pow]
/-- bits side by side -/
theorem nI_orS {a b k : Nat} (h : a < 2 ^ k) : nI a ||| nI (b * 2 ^ k) = nI (a + b * 2 ^ k) := by
  rw [nI_or]
  congr 1
  rw [Nat.or_comm, Nat.mul_comm, ← Nat.two_pow_add_eq_or_of_lt h, Nat.add_comm]
theorem q_inN {n N : Nat} (h : n < N) (hN : N < 2 ^ 31) : q_in (nI n) N := nI_in h hN
theorem nI_cl {n : Nat} (h : n < 2 ^ 31) : (nI n).toNatClampNeg = n := nI_clamp h
theorem nI0 : (0 : Int32) = nI 0 := rfl
theorem q_Fn {n : Nat} (h : n < 100000) : n < q_F := h
