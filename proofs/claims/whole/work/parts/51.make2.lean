/-! MAKING, more rows: writes, a reading, a call of a constructor, the end -/
section VCROWS2
variable {x : Cx} {l : Launch} {R : Room} {y : Ly} {B nL cells slots n : Nat} {cc : ByteArray} {own : String} {Ts : List Cond} {f : FH} {pc : Nat} {lv lv' : List (Nat × Value)} {st : List Value}
theorem isO.at {H : Heap} {a c : Nat} (hR : HP y B n f H) (h : isO f n a c) : t_OB (B + a) (y.1.1 c) (nfl c) (y.1.2 c) H (fun j => h_v B ((f a).2.2.getD j (2, 0))) := by
  obtain ⟨h1, h2, h3, h4⟩ := h
  have h5 := hR.2 a h1
  generalize f a = X at h2 h3 h4 h5 ⊢
  obtain ⟨x0, x1, x2⟩ := X
  cases h2
  cases h3
  exact h5
theorem isR.at {H : Heap} {a k m : Nat} (hR : HP y B n f H) (h : isR f n a k m) : H[B + a]? = some (arrV (ly_c y k) m (fun i => h_v B ((f a).2.2.getD i (2, 0)))) := by
  obtain ⟨h1, h2, h3, h4⟩ := h
  have h5 := hR.2 a h1
  generalize f a = X at h2 h3 h4 h5 ⊢
  obtain ⟨x0, x1, x2⟩ := X
  cases h2
  cases h3
  cases h4
  exact h5
theorem h_setD {fs : List (Nat × Nat)} {j : Nat} {q : Nat × Nat} (hj : j < fs.length) (k : Nat) : (fs.set j q).getD k (2, 0) = if k = j then q else fs.getD k (2, 0) := by
  rw [List.getD_eq_getElem?_getD, List.getD_eq_getElem?_getD]
  by_cases e : k = j
  · subst e
    rw [if_pos rfl, List.getElem?_set_self hj]
    rfl
  · rw [if_neg e, List.getElem?_set_ne (Ne.symm e)]
theorem c_put (K : VKC x l R y nL cc own Ts) {a ci N j idx : Nat} {C : String} {T : u_T} (q : Nat × Nat) {v : Value} (hini : (cx_h x).name = "<init>") (hO : isO f n a ci) (hc : vwCl[ci]? = some (C, T, N)) (hN : nfl ci = N) (hin : ∀ w ∈ u_ws C T N, w ∈ Ts) (ty0 : Nat → FieldType) (hty : ∀ k, k < N → parseFieldDescriptor (T k).2.2.1 = some (ty0 k)) (hnm : ∀ a, a < N → ∀ b, b < N → a ≠ b → (T a).2.1 ≠ (T b).2.1) (hj : j < N) (hlink : Cond.fieldLink own idx (T j).1 (T j).2.1 (T j).2.2.1 ∈ Ts) (hfin : (T j).2.2.2 = false ∨ ((T j).2.2.2 = true ∧ (T j).1 = own)) {ty : FieldType} (hdt : parseFieldDescriptor (T j).2.2.1 = some ty) (hv : v = h_v B q) (hn : narrow ty v = v) (hfit : fits ty v = true)
    (hd : decode cc pc = .ok (.putfield idx, 3)) (kk : VC x y B nL cells slots n (h_p f a j q) (pc + 3) lv st) : VC x y B nL cells slots n f pc lv (v :: .ref (B + a) :: st) := by
  intro H locs ls hR hS hl
  have hap := va_apart (own := own) K.2.2.2.2.1 hin ty0 hty hnm K.2.2.2.2.2.1 hc
  obtain ⟨cell, q1, q2, q3, q4⟩ := hO.at hR
  obtain ⟨hS1, hfc, kC, hkC, hkind⟩ := K.2.2.2.2.2.1.1 ci _ hc
  obtain ⟨cf, kf, fi, fd, hi, hsl⟩ := hS1 j hj
  have hlay := K.2.2.2.2.1 _ (hin _ (u_in_lay hj))
  have hst := (u_facts hfc hkC (u_lays K.2.2.2.2.1 hin hj) hi).1
  have q4' : ∀ k, k < N → cell.slots[y.1.2 ci k]? = some (h_v B ((f a).2.2.getD k (2, 0))) := fun k hk2 => q4 k (by rw [hN]; exact hk2)
  have hgo : ∀ H' : Heap, H'[B + a]? = some (cell.setSlot fd.slot v) → H'.size = H.size → (∀ z, z ≠ B + a → H'[z]? = H[z]?) → W x.1 (cx_l x) x.2.2.1 (cx_R x) (cx_s x) (cx_m x) (cx_v x) (cx_b x) (cx_h x) (cx_c x) H' (locs ++ [⟨B + a, fd.slot⟩]) cells slots (cx_Q x) (F0 (cx_m x) (pc + 3) ls st) := by
    intro H' e1 e2 e3
    rw [hsl] at e1 ⊢
    refine kk H' _ ls (hR.set e2 e3 ?_) (hS.put e2 e3 (Nat.le_add_right B a)) hl
    obtain ⟨h1, h2, h3, h4⟩ := hO
    generalize f a = X at h2 h3 h4 q4' ⊢
    obtain ⟨x0, x1, x2⟩ := X
    cases h2
    cases h3
    refine ⟨_, e1, q2, q3, ?_⟩
    show ∀ k, k < nfl x1 → _
    rw [hN]
    intro k hk
    rw [t_set q4' hap hj v k hk]
    unfold updV
    show some _ = some (h_v B ((x2.set j q).getD k (2, 0)))
    rw [h_setD (by rw [show x2.length = nfl x1 from h4, hN]; exact hj)]
    by_cases e : k = j
    · rw [if_pos e, if_pos e, hv]
    · rw [if_neg e, if_neg e]
  rcases hfin with hfin | ⟨hfin, hdecl⟩
  · unfold u_lay at hlay
    rw [if_neg (by rw [hfin]; decide)] at hlay
    have h6 := u_store hfc hkC hkind hlay hi hdt hn hfit
    exact W.putK K.1 K.2.1 (f := fd) ⟨K.2.2.2.1, K.2.2.2.2.1 _ hlink, ⟨_, _, _, hi⟩, hst⟩ (by rw [q2]; exact h6) q1 q3 (by rw [hsl]; exact k2_hasslot (q4' j hj)) rfl rfl hd hgo
  · unfold u_lay at hlay
    rw [if_pos hfin] at hlay
    have hcf : (cx_m x).cls = cf := by
      obtain ⟨_, _, c', _, _, _, -, -, hf', -, -, -, hown2, -⟩ := Cond.laysFinal_spec hlay
      have e1 : c' = cf := by have := hi.symm.trans hf'; simp at this; exact this.1.symm
      rw [hdecl] at hown2
      rw [← e1]; exact Option.some.inj (K.2.2.2.1.symm.trans hown2)
    have h6 := u_fits hfc hkC hkind (Or.inr hlay) hi hdt hn hfit
    exact W.putFinK K.1 K.2.1 K.2.2.2.1 (K.2.2.2.2.1 _ hlink) hi hst hcf hini (by rw [q2]; exact h6) q1 q3 (by rw [hsl]; exact k2_hasslot (q4' j hj)) rfl rfl hd hgo
theorem c_get (K : VKC x l R y nL cc own Ts) {a ci N j idx off : Nat} {C : String} {T : u_T} (hO : isO f n a ci) (hg : h_g f a j (1, off)) (hc : vwCl[ci]? = some (C, T, N)) (hN : nfl ci = N) (hin : ∀ w ∈ u_ws C T N, w ∈ Ts) (hj : j < N) (hlink : Cond.fieldLink own idx (T j).1 (T j).2.1 (T j).2.2.1 ∈ Ts)
    (hd : decode cc pc = .ok (.getfield idx, 3)) (kk : VC x y B nL cells slots n f (pc + 3) lv (.ref (B + off) :: st)) : VC x y B nL cells slots n f pc lv (.ref (B + a) :: st) := by
  intro H locs ls hR hS hl
  obtain ⟨cell, q1, q2, q3, q4⟩ := hO.at hR
  obtain ⟨hS1, hfc, kC, hkC, hkind⟩ := K.2.2.2.2.2.1.1 ci _ hc
  obtain ⟨cf, kf, fi, fd, hi, hsl⟩ := hS1 j hj
  refine W.getf K.1 K.2.1 K.2.2.2.1 (K.2.2.2.2.1 _ hlink) hi (u_facts hfc hkC (u_lays K.2.2.2.2.1 hin hj) hi).1 q1 (by rw [q3]; exact fun h => by cases h) (v := .ref (B + off)) ?_ rfl rfl hd (kk H locs ls hR hS hl)
  have h4 : cell.slots[y.1.2 ci j]? = some (h_v B ((f a).2.2.getD j (2, 0))) := q4 j (by rw [hN]; exact hj)
  unfold h_g at hg
  rw [hg] at h4
  rw [hsl]
  exact h4
theorem c_aast (K : VKC x l R y nL cc own Ts) {b k m ci off N : Nat} {i : Int32} {C : String} {T : u_T} (i0 : Nat) (hA : isR f n b k m) (hO : isO f n off ci) (hc : vwCl[ci]? = some (C, T, N)) (hk : (ly_t y)[k]? = some (ly_c y k, .object C)) (hi : ¬ i < 0 ∧ i.toNatClampNeg < m) (hi0 : i.toNatClampNeg = i0)
    (hd : decode cc pc = .ok (.aastore, 1)) (kk : VC x y B nL cells slots n (h_p f b i0 (1, off)) (pc + 1) lv st) : VC x y B nL cells slots n f pc lv (.ref (B + off) :: .int i :: .ref (B + b) :: st) := by
  intro H locs ls hR hS hl
  have hz := hA.at hR
  obtain ⟨cellV, g1, g2, g3, -⟩ := hO.at hR
  have hcls := (K.2.2.2.2.2.1.1 ci _ hc).2
  obtain ⟨kA, comp, k1, k2, k3, -⟩ := (K.2.2.2.2.2.1.2 k _ hk).2
  have hcomp : comp = y.1.1 ci := Option.some.inj (k3.symm.trans hcls.1)
  subst hcomp
  obtain ⟨-, kC, hkC, -⟩ := id hcls
  have hz' := hz
  refine W.aast K.1 K.2.1 hz (fun q h => by cases h) (fun h => by cases h) (by exact k1) k2 rfl hkC ⟨hi.1, by rw [arrV_size]; exact hi.2⟩ g1 (fun q h => by rw [g3] at h; cases h) (by rw [g2]; exact hkC) (by rw [g2]; exact va_assign hcls) rfl rfl hd fun H1 e1 e2 e3 => ?_
  rw [hi0] at e1
  refine kk H1 _ ls (hR.set e2 e3 ?_) (hS.put e2 e3 (Nat.le_add_right B b)) hl
  obtain ⟨h1, h2, h3, h4⟩ := hA
  rw [arrV_store] at e1
  generalize f b = X at h2 h3 h4 e1 ⊢
  obtain ⟨x0, x1, x2⟩ := X
  cases h2
  cases h3
  cases h4
  show H1[B + b]? = some (arrV (ly_c y x1) (x2.set i0 (1, off)).length (fun z => h_v B ((x2.set i0 (1, off)).getD z (2, 0))))
  rw [e1, List.length_set]
  congr 2
  funext z
  rw [h_setD (by rw [← hi0]; exact hi.2)]
  unfold updV
  by_cases e : z = i0
  · rw [if_pos e, if_pos e]
    rfl
  · rw [if_neg e, if_neg e]
theorem c_ran {n1 mc ms : Nat} {f1 : FH} {args : Array Value} {g : JFrame} {rest : List Value} {H : Heap} {locs : List Loc} {ls : Array Slot} (hg : g = F0 (cx_m x) pc ls st)
    (hr : va_Run x.1 (cx_l x) x.2.2.1 (cx_R x) (cx_s x) (cx_m x) (cx_v x) (cx_b x) (cx_h x) (cx_c x) H locs cells slots mc ms g rest (h_E y B n1 f1 args) (h_A B)) (hS : va_S (h_A B) (cx_s x).heap H locs) (hl : lv_has ls nL lv)
    (kk : VC x y B nL (cells + mc) (slots + ms) n1 f1 (pc + 3) lv rest) : W x.1 (cx_l x) x.2.2.1 (cx_R x) (cx_s x) (cx_m x) (cx_v x) (cx_b x) (cx_h x) (cx_c x) H locs cells slots (cx_Q x) (F0 (cx_m x) pc ls st) := by
  subst hg
  intro T hT X
  obtain ⟨v, st₀, t, T', L, h0, X', hL, e1, e2, ⟨hv, hR1, hz, hk⟩, stp⟩ := hr T hT X
  cases hv
  rw [h0] at hz hk
  obtain ⟨t2, a1, b1⟩ := kk T'.heap (locs ++ L) ls (by rw [e1]; exact hR1)
    ⟨Nat.le_trans hS.1 (by rw [e1]; exact hz), fun q h1 h2 => by rw [e1, hk q (Nat.lt_of_lt_of_le h1 hS.1) h2]; exact hS.2.1 q h1 h2, fun q hq => by
      rcases List.mem_append.mp hq with h | h
      · exact hS.2.2 q h
      · exact hL q h⟩ hl T' rfl X'
  exact ⟨t2, stp t2 a1, b1⟩
theorem h_blind {args : List Value} : FrameBlind (h_P y B args n f) := fun a U g mk q => by
  obtain ⟨h1, h2, h3, h4, h5⟩ := q
  exact ⟨h1, h2, va_K.moved (u := U) (U := U.calling g mk a) (Vm.Alike.refl U.vm) h3, fun q hq => va_Nw.same (u := U) (U := U.calling g mk a) rfl rfl (h4 q hq), va_AO.moved (Vm.Alike.refl U.vm) h5.1, va_AO.moved (Vm.Alike.refl U.vm) h5.2.1, va_AO.moved (Vm.Alike.refl U.vm) h5.2.2⟩
theorem c_callI (K : VKC x l R y nL cc own Ts) {yn : MethodName} {bytes : ByteArray} {maxL idx b n1 mc ms : Nat} {ws ws' : List Cond} {rm : Room} {f1 : FH}
    (hM : Met l yn ws rm (h_P y B [.ref (B + b)] n f) (h_E y B n1 f1) mc ms (h_A B)) (hm0 : h_M (cx_s x)) (hG : GoodIn Ts ws) (hw : ws = Cond.code yn bytes maxL none :: ws') (hrc : rm.cells = mc) (hrs : rm.slots = ms) (hini : Cond.initialized yn.cls ∈ Ts) (hli : Cond.methodLink own idx yn ∈ Ts) (hins : Cond.instanceMethod yn ∈ Ts) (hnm : yn.name = "<init>")
    (hdd : yn.cls ≠ "java/lang/invoke/MethodHandle" ∧ yn.cls ≠ "java/lang/invoke/VarHandle" ∧ (parseMethodDescriptor yn.desc).map (fun d => d.parameters.length) = some 0) (hRm : rm.frames + 1 ≤ R.frames ∧ 8 + (maxL + 11) + rm.locals ≤ R.locals) (hcat : (st.map fun v => v.category).sum ≤ 8) (h1 : cells + mc ≤ R.cells) (h2 : slots + ms ≤ R.slots)
    (hd : decode cc pc = .ok (.invokespecial idx, 3)) (kk : VC x y B nL (cells + mc) (slots + ms) n1 f1 (pc + 3) lv st) : VC x y B nL cells slots n f pc lv (.ref (B + b) :: st) := by
  intro H locs ls hR hS hl
  have hK := K.2.2.2.2.2.1
  have hl0 := K.2.2.2.2.2.2.1
  have hR0 := K.2.2.2.2.2.2.2.1
  have hN := K.2.2.2.2.2.2.2.2
  subst hl0
  subst hR0
  exact c_ran (n1 := n1) rfl (va_runI (As := []) (rest := st) ⟨K.1, K.2.1, K.2.2.1, K.2.2.2.1, K.2.2.2.2.1⟩ hM (cwI 0 K.2.2.2.2.1 hG hw hrc hrs (K.2.2.2.2.1 _ hini) (K.2.2.2.2.1 _ hli) (K.2.2.2.2.1 _ hins) hnm hdd hRm) ⟨h_blind, fun U hU hW => ⟨rfl, by rw [hU]; exact hR, va_K.moved hW.alike hK, fun q hq => va_Nw.warmM hW (hN q hq), va_AO.moved hW.alike hm0.1, va_AO.moved hW.alike hm0.2.1, va_AO.moved hW.alike hm0.2.2⟩⟩ rfl rfl hl.1 rfl (lv_room hcat) hd ⟨h1, h2⟩) hS hl kk
theorem c_callN (K : VKC x l R y nL cc own Ts) {yn : MethodName} {bytes : ByteArray} {maxL idx b n1 mc ms : Nat} {host : String} {ws ws' : List Cond} {rm : Room} {f1 : FH}
    (hM : Met l yn ws rm (h_P y B [.ref (B + b)] n f) (h_E y B n1 f1) mc ms (h_A B)) (hm0 : h_M (cx_s x)) (hG : GoodIn Ts ws) (hw : ws = Cond.code yn bytes maxL none :: ws') (hrc : rm.cells = mc) (hrs : rm.slots = ms) (hini : Cond.initialized yn.cls ∈ Ts) (hnest : (own, idx, yn, host) ∈ q_Nl) (hins : Cond.instanceMethod yn ∈ Ts) (hnm : yn.name = "<init>")
    (hdd : yn.cls ≠ "java/lang/invoke/MethodHandle" ∧ yn.cls ≠ "java/lang/invoke/VarHandle" ∧ (parseMethodDescriptor yn.desc).map (fun d => d.parameters.length) = some 0) (hRm : rm.frames + 1 ≤ R.frames ∧ 8 + (maxL + 11) + rm.locals ≤ R.locals) (hcat : (st.map fun v => v.category).sum ≤ 8) (h1 : cells + mc ≤ R.cells) (h2 : slots + ms ≤ R.slots)
    (hd : decode cc pc = .ok (.invokespecial idx, 3)) (kk : VC x y B nL (cells + mc) (slots + ms) n1 f1 (pc + 3) lv st) : VC x y B nL cells slots n f pc lv (.ref (B + b) :: st) := by
  intro H locs ls hR hS hl
  have hK := K.2.2.2.2.2.1
  have hl0 := K.2.2.2.2.2.2.1
  have hR0 := K.2.2.2.2.2.2.2.1
  have hN := K.2.2.2.2.2.2.2.2
  subst hl0
  subst hR0
  exact c_ran (n1 := n1) rfl (va_runIN (host := host) (As := []) (rest := st) ⟨K.1, K.2.1, K.2.2.1, K.2.2.2.1, K.2.2.2.2.1⟩ hM ⟨va_cnB 0 K.2.2.2.2.1 hG hw hrc hrs (hN _ hnest) (K.2.2.2.2.1 _ hini) hdd hRm, hnm, K.2.2.2.2.1 _ hins⟩ ⟨h_blind, fun U hU hW => ⟨rfl, by rw [hU]; exact hR, va_K.moved hW.alike hK, fun q hq => va_Nw.warmM hW (hN q hq), va_AO.moved hW.alike hm0.1, va_AO.moved hW.alike hm0.2.1, va_AO.moved hW.alike hm0.2.2⟩⟩ rfl rfl hl.1 rfl (lv_room hcat) hd ⟨h1, h2⟩) hS hl kk
theorem c_ret (K : VKC x l R y nL cc own Ts) (hQ : VQC x y B n f cells slots) (hd : decode cc pc = .ok (.return_, 1)) : VC x y B nL cells slots n f pc lv [] := by
  intro H locs ls hR hS hl
  rw [hQ.1]
  exact W.vret K.1 K.2.1 hQ.2.1 (fun t ht hW => ⟨rfl, by rw [ht]; exact hR, hS.F ht⟩) hS.2.2 hd (hlocks := hQ.2.2.1)
end VCROWS2
