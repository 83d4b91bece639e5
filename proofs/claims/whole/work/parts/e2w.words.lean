/-! words and their kinds -/
theorem wi_at {l : List Nat} : ∀ (xs : List (List Nat)) (w k : Nat), wi l xs w = k → k < 32 → ∃ i, k = w + i ∧ xs[i]? = some l := by
  intro xs
  induction xs with
  | nil => intro w k h hk; have : (32 : Nat) = k := h; omega
  | cons x xs ih =>
    intro w k h hk
    unfold wi at h
    by_cases c : l = x
    · rw [if_pos c] at h
      exact ⟨0, by omega, by rw [c]; rfl⟩
    · rw [if_neg c] at h
      obtain ⟨i, e1, e2⟩ := ih (w + 1) k h hk
      exact ⟨i + 1, by omega, e2⟩
theorem wi_all : ∀ w, w < 28 → wi (WDS.getD w []) WDS 0 = w := by decide +kernel
theorem wi_iff {l : List Nat} {w : Nat} (hw : w < 28) : wi l WDS 0 = w ↔ l = WDS.getD w [] := by
  refine ⟨fun h => ?_, fun h => ?_⟩
  · obtain ⟨i, e1, e2⟩ := wi_at WDS 0 w h (by omega)
    have e : i = w := by omega
    subst e
    rw [List.getD_eq_getElem?_getD, e2]
    rfl
  · rw [h]
    exact wi_all w hw
section KDW
variable {b : Nat → Nat} {n p : Nat}
/-- a word's kind tells its letters -/
theorem kd_w {w : Nat} (hw : w < 28) : kd b n p = w ↔ (p < n ∧ isL (b p) = true ∧ wl b n p = WDS.getD w []) := by
  unfold kd
  by_cases c : n ≤ p
  · rw [if_pos c]
    exact ⟨fun h => by omega, fun h => by omega⟩
  · rw [if_neg c]
    by_cases c2 : isL (b p) = true
    · rw [if_pos c2, wi_iff hw]
      exact ⟨fun h => ⟨by omega, c2, h⟩, fun h => h.2.2⟩
    · rw [if_neg c2]
      refine ⟨fun h => ?_, fun h => absurd h.2.1 c2⟩
      exfalso
      by_cases c3 : isD (b p) = true
      · rw [if_pos c3] at h
        omega
      · rw [if_neg c3] at h
        generalize (if p + 1 < n then b (p + 1) else 0) = d at h
        unfold sgn at h
        split at h
        · omega
        · split at h
          · split at h <;> omega
          · omega
theorem we_len {w : Nat} (hw : w < 28) (h : kd b n p = w) : te b n p = p + (WDS.getD w []).length := by
  obtain ⟨h1, h2, h3⟩ := (kd_w hw).mp h
  have e : (wl b n p).length = we b n p - p := ls_len _ _
  have g := (rn_le (P := isL) (b := b) (show p ≤ n by omega)).1
  have g : p ≤ we b n p := g
  unfold te
  rw [if_pos h2, ← h3, e]
  omega
theorem nx_len {w : Nat} (hw : w < 28) (h : kd b n p = w) : p + (WDS.getD w []).length ≤ nx b n p := by
  have hp := kd_on (b := b) (n := n) (p := p) (by omega)
  have h1 := te_b (b := b) hp
  have h2 := (rn_le (P := isS) (b := b) h1.2).1
  rw [we_len hw h] at h2
  have e := we_len hw h
  unfold nx sk
  rw [e]
  exact h2
end KDW
