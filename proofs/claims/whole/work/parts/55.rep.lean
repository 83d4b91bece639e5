/-! behind the making the heap holds the starting memory, on both sides; the layouts are apart -/
theorem q_gd {n j : Nat} {g : Nat → Nat × Nat} {d : Nat × Nat} (hj : j < n) : ((List.range n).map g).getD j d = g j := by
  rw [List.getD_eq_getElem?_getD, List.getElem?_map, List.getElem?_range hj]
  rfl
theorem q_arrV {c : ClassId} {n : Nat} {f g : Nat → Value} (h : ∀ i, i < n → f i = g i) : arrV c n f = arrV c n g := by
  unfold arrV
  congr 2
  funext j
  exact h j.val j.isLt
theorem q_side0 {D : va_G} {B : Nat} {cs : Nat → ClassId} {o : Nat} (h : ly_S (q_ly D B cs 0) o) : kls o < 11 := h
theorem q_side1 {D : va_G} {B : Nat} {cs : Nat → ClassId} {o : Nat} (h : ly_S (q_ly D B cs 1) o) : kls o = 11 := h
theorem q_atO {D : va_G} {B sd : Nat} {cs : Nat → ClassId} {o : Nat} {H : Heap} (h : h_at (q_ly D B cs sd) B (q_oo o) (q_eo o) H) : t_OB (ly_o (q_ly D B cs sd) o) ((q_ly D B cs sd).1.1 (kls o)) (nfl (kls o)) ((q_ly D B cs sd).1.2 (kls o)) H (ly_f (q_ly D B cs sd) q_M0 o) := by
  have h1 : t_OB (B + q_oo o) ((q_ly D B cs sd).1.1 (kls o)) (nfl (kls o)) ((q_ly D B cs sd).1.2 (kls o)) H (fun j => h_v B ((q_eo o).2.2.getD j (2, 0))) := h
  refine h1.to fun j hj => ?_
  unfold q_eo ly_f
  rw [q_gd hj]
  generalize fk (kls o) j = k
  match k with
  | 0 => rfl
  | 1 => rfl
  | 2 => rfl
  | k + 3 => rfl
theorem q_atA {D : va_G} {B sd : Nat} {cs : Nat → ClassId} {o j : Nat} {H : Heap} (h : h_at (q_ly D B cs sd) B (q_oa o j) (q_ea o j) H) : H[ly_a (q_ly D B cs sd) o j]? = some (ly_z (q_ly D B cs sd) q_M0 o j) := by
  unfold q_ea at h
  unfold ly_z
  generalize ak (kls o) j = k at h ⊢
  generalize al (kls o) j = m at h ⊢
  match k, h with
  | 0, h => exact h
  | 1, h => exact h
  | 2, h => exact h
  | 3, h => exact h
  | k + 4, h =>
    rw [if_neg (by omega)] at h
    have h1 : H[B + q_oa o j]? = some (arrV (ly_c (q_ly D B cs sd) (k + 4)) ((List.range m).map fun i => ((1, q_oo (el o j i)) : Nat × Nat)).length (fun i => h_v B (((List.range m).map fun i => ((1, q_oo (el o j i)) : Nat × Nat)).getD i (2, 0)))) := h
    rw [List.length_map, List.length_range] at h1
    refine h1.trans (congrArg some (q_arrV fun i hi => ?_))
    rw [q_gd hi]
    rfl
theorem q_fMX (q : Nat) (h : q < 503) : q_fM q = q_fX q := by
  have hk : h_K q_fN 504 503 q_fM := wX12_init (isO.here rfl) rfl
  rw [hk.1 q (by omega) (by omega)]
  exact h_un (by omega)
theorem q_rep0 {D : va_G} {B : Nat} {cs : Nat → ClassId} {H : Heap} (hP : HP (q_ly D B cs 0) B 530 q_fM H) : Rep (q_ly D B cs 0) q_M0 H := by
  refine ⟨fun o ho => ?_, fun o j ho hj hf => ?_, fun o j ho hj hf => ?_⟩
  · have hk := q_side0 ho
    have hb := (q_Io o (kls_lt hk) hk).2
    have h := hP.2 (q_oo o) (by omega)
    rw [q_fMX _ hb, q_Xo o (kls_lt hk) hk] at h
    exact q_atO h
  · have hk := q_side0 ho
    have hb := (q_Ia o (kls_lt hk) hk j hj hf).2
    have h := hP.2 (q_oa o j) (by omega)
    rw [q_fMX _ hb, q_Xa o (kls_lt hk) hk j hj hf] at h
    exact q_atA h
  · exact q_r0k o (kls_lt (q_side0 ho)) j hj hf
theorem q_rep1 {D : va_G} {B : Nat} {cs : Nat → ClassId} {H : Heap} (hP : HP (q_ly D B cs 1) B 530 q_fM H) : Rep (q_ly D B cs 1) q_M0 H := by
  refine ⟨fun o ho => ?_, fun o j ho hj hf => ?_, fun o j ho hj hf => ?_⟩
  · obtain rfl := kls_11 (q_side1 ho)
    have h := hP.2 (q_oo 1000) (by decide)
    rw [q_Mo] at h
    exact q_atO h
  · obtain rfl := kls_11 (q_side1 ho)
    have h := hP.2 (q_oa 1000 j) (q_Ja j hj hf).2.2
    rw [q_Ma j hj hf] at h
    exact q_atA h
  · obtain rfl := kls_11 (q_side1 ho)
    have : ∀ j, j < nfl 11 → fk 11 j ≠ 3 := by decide +kernel
    exact absurd hf (this j hj)
theorem q_J0 {D : va_G} {B : Nat} {cs : Nat → ClassId} : ∀ a b, ly_S (q_ly D B cs 0) a → ly_S (q_ly D B cs 0) b → q_oo a = q_oo b → a = b := fun a b ha hb h => by
  have h1 := (q_Io a (kls_lt (q_side0 ha)) (q_side0 ha)).1
  have h2 := (q_Io b (kls_lt (q_side0 hb)) (q_side0 hb)).1
  rw [h, h2] at h1
  exact (congrArg Prod.fst h1).symm
theorem fk_lt {c j : Nat} (h : fk c j = 1) : j < nfl c := by
  unfold fk at h
  unfold nfl
  by_cases e : j < (fkT.getD c []).length
  · exact e
  · rw [List.getD_eq_getElem?_getD (l := fkT.getD c []), List.getElem?_eq_none (by omega)] at h
    cases h
theorem q_lJ0 {D : va_G} {B : Nat} {cs : Nat → ClassId} : ly_J (q_ly D B cs 0) := by
  refine ⟨fun a b ha hb h => ?_, fun a i b j ha hb hi hj h => ?_, fun a b j ha hb hj h => ?_⟩
  · exact q_J0 a b ha hb (Nat.add_left_cancel h)
  · have h1 := (q_Ia a (kls_lt (q_side0 ha)) (q_side0 ha) i (fk_lt hi) hi).1
    have h2 := (q_Ia b (kls_lt (q_side0 hb)) (q_side0 hb) j (fk_lt hj) hj).1
    have h3 : q_oa a i = q_oa b j := Nat.add_left_cancel h
    rw [h3, h2] at h1
    exact ⟨(congrArg Prod.fst h1).symm, (congrArg Prod.snd h1).symm⟩
  · have h1 := (q_Io a (kls_lt (q_side0 ha)) (q_side0 ha)).1
    have h2 := (q_Ia b (kls_lt (q_side0 hb)) (q_side0 hb) j (fk_lt hj) hj).1
    have h3 : q_oo a = q_oa b j := Nat.add_left_cancel h
    rw [h3, h2] at h1
    have h4 : j = 99 := congrArg Prod.snd h1
    have h5 := fk_lt hj
    have : ∀ c, c < 12 → nfl c < 99 := by decide +kernel
    have h6 := this (kls b) (Nat.lt_trans (q_side0 hb) (by decide))
    omega
theorem q_lJ1 {D : va_G} {B : Nat} {cs : Nat → ClassId} : ly_J (q_ly D B cs 1) := by
  refine ⟨fun a b ha hb _ => ?_, fun a i b j ha hb hi hj h => ?_, fun a b j ha hb hj h => ?_⟩
  · rw [kls_11 (q_side1 ha), kls_11 (q_side1 hb)]
  · obtain rfl := kls_11 (q_side1 ha)
    obtain rfl := kls_11 (q_side1 hb)
    have h1 := (q_Ja i (fk_lt hi) hi).1
    have h2 := (q_Ja j (fk_lt hj) hj).1
    have h3 : q_oa 1000 i = q_oa 1000 j := Nat.add_left_cancel h
    rw [h3, h2] at h1
    exact ⟨rfl, (congrArg Prod.snd h1).symm⟩
  · obtain rfl := kls_11 (q_side1 ha)
    obtain rfl := kls_11 (q_side1 hb)
    have h3 : q_oo 1000 = q_oa 1000 j := Nat.add_left_cancel h
    have : ∀ j, j < nfl 11 → fk 11 j = 1 → q_oo 1000 ≠ q_oa 1000 j := by decide +kernel
    exact this j (fk_lt hj) hj h3
