/-! the JDK's String members over the one constant that the class has -/
section VSTRC
variable {x : Cx} {l : Launch} {R : Room} {y : Ly} {n : Nat} {cc : ByteArray} {own : String} {Ts : List Cond} {M : QM} {pc : Nat} {lv lv' : List (Nat × Value)} {st : List Value}
theorem v_sval (K : VK x l R y n cc own Ts) {idx : Nat} (hlink : Cond.fieldLink own idx "java/lang/String" "value" "[B" ∈ Ts) (hd : decode cc pc = .ok (.getfield idx, 3)) (kk : V x y n M (pc + 3) lv (.ref (ly_c y 8) :: st)) : V x y n M pc lv (.ref (ly_c y 7) :: st) :=
  fun H locs ls hR hS hl => vk_getf K.1 K.2.1 K.2.2.2.2.2.2.2.2.2.2.2.2.1 hS K.2.2.2.1 (K.2.2.2.2.1 _ hlink) (fun _ h => h) hd (kk H locs ls hR hS hl)
theorem v_scod (K : VK x l R y n cc own Ts) {idx : Nat} (hlink : Cond.fieldLink own idx "java/lang/String" "coder" "B" ∈ Ts) (hd : decode cc pc = .ok (.getfield idx, 3)) (kk : V x y n M (pc + 3) lv (.int 0 :: st)) : V x y n M pc lv (.ref (ly_c y 7) :: st) :=
  fun H locs ls hR hS hl => vk_getf K.1 K.2.1 K.2.2.2.2.2.2.2.2.2.2.2.1 hS K.2.2.2.1 (K.2.2.2.2.1 _ hlink) (fun _ h => h) hd (kk H locs ls hR hS hl)
theorem v_ssta (K : VK x l R y n cc own Ts) {idx : Nat} (hlink : Cond.fieldLink own idx "java/lang/String" "COMPACT_STRINGS" "Z" ∈ Ts) (hd : decode cc pc = .ok (.getstatic idx, 3)) (kk : V x y n M (pc + 3) lv (.int 1 :: st)) : V x y n M pc lv st :=
  fun H locs ls hR hS hl => va_gets K.1 K.2.1 K.2.2.2.2.2.2.2.2.2.2.2.2.2.2.1 hS K.2.2.2.1 (K.2.2.2.2.1 _ hlink) (fun _ h => h) hd (kk H locs ls hR hS hl)
theorem v_sfmt (K : VK x l R y n cc own Ts) {idx : Nat} (hlink : Cond.fieldLink own idx "jdk/internal/util/Preconditions" "SIOOBE_FORMATTER" "Ljava/util/function/BiFunction;" ∈ Ts) (hd : decode cc pc = .ok (.getstatic idx, 3)) (kk : ∀ v : Value, v.category = 1 → V x y n M (pc + 3) lv (v :: st)) : V x y n M pc lv st := by
  intro H locs ls hR hS hl
  rcases K.2.2.2.2.2.2.2.2.2.2.2.2.2.2.2.1 with h | ⟨t, h⟩
  · exact va_gets K.1 K.2.1 h hS K.2.2.2.1 (K.2.2.2.2.1 _ hlink) (fun _ h => h) hd (kk .null rfl H locs ls hR hS hl)
  · exact va_gets K.1 K.2.1 h hS K.2.2.2.1 (K.2.2.2.2.1 _ hlink) (fun _ h => h) hd (kk (.ref t) rfl H locs ls hR hS hl)
theorem v_slen (K : VK x l R y n cc own Ts) (hd : decode cc pc = .ok (.arraylength, 1)) (kk : V x y n M (pc + 1) lv (.int 146 :: st)) : V x y n M pc lv (.ref (ly_c y 8) :: st) := by
  intro H locs ls hR hS hl
  obtain ⟨cell, h1, h2, h3, h4, h5, h6, h7⟩ := K.2.2.2.2.2.2.2.2.2.2.2.2.2.1.kept hS.2.1
  exact W.alen (n := 146) K.1 K.2.1 h1 h2 h5 rfl rfl hd (kk H locs ls hR hS hl)
theorem v_sbald (K : VK x l R y n cc own Ts) {i : Int32} (k : Nat) (hi : ¬ i < 0) (hk : i.toNatClampNeg = k) (hk2 : k < 146) (hd : decode cc pc = .ok (.baload, 1)) (kk : V x y n M (pc + 1) lv (.int (q_bytes.getD k 0) :: st)) : V x y n M pc lv (.int i :: .ref (ly_c y 8) :: st) := by
  intro H locs ls hR hS hl
  obtain ⟨cell, h1, h2, h3, h4, h5, h6, h7⟩ := K.2.2.2.2.2.2.2.2.2.2.2.2.2.1.kept hS.2.1
  have hb : ¬ (i < 0 ∨ cell.slots.size ≤ i.toNatClampNeg) := fun q => q.elim hi (fun q => by rw [hk] at q; omega)
  exact W.bald (v := .int (q_bytes.getD k 0)) K.1 K.2.1 h1 h2 h3 hb (by rw [hk]; exact h6 k hk2) rfl rfl hd (kk H locs ls hR hS hl)
theorem v_ldcS (K : VK x l R y n cc "TwoCards$Tokens" Ts) (hd : decode cc pc = .ok (.ldc 63, 2)) (kk : V x y n M (pc + 2) lv (.ref (ly_c y 7) :: st)) : V x y n M pc lv st :=
  fun H locs ls hR hS hl => va_ldcS K.1 K.2.1 K.2.2.2.1 K.2.2.2.2.2.2.2.2.2.2.2.2.2.2.2.2 hd (kk H locs ls hR hS hl)
theorem v_i2c (K : VK x l R y n cc own Ts) {v w : Int32} (hd : decode cc pc = .ok (.i2c, 1)) (hv : (v.toUInt32 % 65536).toInt32 = w) (kk : V x y n M (pc + 1) lv (.int w :: st)) : V x y n M pc lv (.int v :: st) :=
  fun H locs ls hR hS hl => lv_i2c K.1 K.2.1 hd hv (kk H locs ls hR hS hl)
theorem v_ifF_eq (K : VK x l R y n cc own Ts) {v : Int32} {off : Int} (tgt : Nat) (hd : decode cc pc = .ok (.ifCond .eq off, 3)) (ht : (pc : Int) + off = (tgt : Int)) (h : ¬ v = 0) (kk : V x y n M (pc + 3) lv st) : V x y n M pc lv (.int v :: st) :=
  fun H locs ls hR hS hl => lv_if_eq K.1 K.2.1 hd ht (fun q => absurd q h) (fun _ => kk H locs ls hR hS hl)
theorem v_ifF_ne (K : VK x l R y n cc own Ts) {v : Int32} {off : Int} (tgt : Nat) (hd : decode cc pc = .ok (.ifCond .ne off, 3)) (ht : (pc : Int) + off = (tgt : Int)) (h : v = 0) (kk : V x y n M (pc + 3) lv st) : V x y n M pc lv (.int v :: st) :=
  fun H locs ls hR hS hl => lv_if_ne K.1 K.2.1 hd ht (fun q => absurd h q) (fun _ => kk H locs ls hR hS hl)
theorem v_ifF_lt (K : VK x l R y n cc own Ts) {v : Int32} {off : Int} (tgt : Nat) (hd : decode cc pc = .ok (.ifCond .lt off, 3)) (ht : (pc : Int) + off = (tgt : Int)) (h : ¬ v < 0) (kk : V x y n M (pc + 3) lv st) : V x y n M pc lv (.int v :: st) :=
  fun H locs ls hR hS hl => lv_if_lt K.1 K.2.1 hd ht (fun q => absurd q h) (fun _ => kk H locs ls hR hS hl)
theorem v_icmpT_lt (K : VK x l R y n cc own Ts) {v v1 : Int32} {off : Int} (tgt : Nat) (hd : decode cc pc = .ok (.if_icmp .lt off, 3)) (ht : (pc : Int) + off = (tgt : Int)) (h : v < v1) (kk : V x y n M tgt lv st) : V x y n M pc lv (.int v1 :: .int v :: st) :=
  fun H locs ls hR hS hl => lv_icmp_lt K.1 K.2.1 hd ht (fun _ => kk H locs ls hR hS hl) (fun q => absurd h q)
theorem v_icmpT_ge (K : VK x l R y n cc own Ts) {v v1 : Int32} {off : Int} (tgt : Nat) (hd : decode cc pc = .ok (.if_icmp .ge off, 3)) (ht : (pc : Int) + off = (tgt : Int)) (h : v1 ≤ v) (kk : V x y n M tgt lv st) : V x y n M pc lv (.int v1 :: .int v :: st) :=
  fun H locs ls hR hS hl => lv_icmp_ge K.1 K.2.1 hd ht (fun _ => kk H locs ls hR hS hl) (fun q => absurd h q)
theorem v_icmpF_ge (K : VK x l R y n cc own Ts) {v v1 : Int32} {off : Int} (tgt : Nat) (hd : decode cc pc = .ok (.if_icmp .ge off, 3)) (ht : (pc : Int) + off = (tgt : Int)) (h : ¬ v1 ≤ v) (kk : V x y n M (pc + 3) lv st) : V x y n M pc lv (.int v1 :: .int v :: st) :=
  fun H locs ls hR hS hl => lv_icmp_ge K.1 K.2.1 hd ht (fun q => absurd q h) (fun _ => kk H locs ls hR hS hl)
theorem v_callK (K : VK x l R y n cc own Ts) {yn : MethodName} {bytes : ByteArray} {maxL nA idx : Nat} {ret : Option FieldType} {ws ws' : List Cond} {rm : Room} {As rest : List Value} {r : Option Value} {M1 : QM} {st' : List Value}
    (hM : Met l yn ws rm (q_P y (.ref (ly_c y 7) :: As) M) (q_E y r M1) 0 0 (ly_A y)) (hG : GoodIn Ts (wsV own idx "java/lang/String" yn ws)) (hw : ws = Cond.code yn bytes maxL ret :: ws') (hrc : rm.cells = 0) (hrs : rm.slots = 0)
    (hdd : yn.cls = "java/lang/String" ∧ yn.cls ≠ "java/lang/invoke/MethodHandle" ∧ yn.cls ≠ "java/lang/invoke/VarHandle" ∧ (parseMethodDescriptor yn.desc).map (fun d => d.parameters.length) = some nA) (hRm : rm.frames + 1 ≤ R.frames ∧ 8 + (maxL + 11) + rm.locals ≤ R.locals)
    (hn : As.length = nA) (hst : st = As.reverse ++ .ref (ly_c y 7) :: rest) (hcat : (rest.map fun v => v.category).sum ≤ 8) (hd : decode cc pc = .ok (.invokevirtual idx, 3))
    (hst' : r.toList ++ rest = st') (kk : V x y n M1 (pc + 3) lv st') : V x y n M pc lv st := by
  subst hst'
  intro H locs ls hR hS hl
  have hK := K.2.2.2.2.2.1
  have hl0 := K.2.2.2.2.2.2.2.1
  have hR0 := K.2.2.2.2.2.2.2.2.1
  have hN := K.2.2.2.2.2.2.2.2.2.1
  have hT := K.2.2.2.2.2.2.2.2.2.2
  subst hl0
  subst hR0
  obtain ⟨cell, g1, g2, g3, -⟩ := hT.1.kept hS.2.1
  exact v_ran (Mc := M) rfl (va_runV (As := As) (rest := rest) ⟨K.1, K.2.1, K.2.2.1, K.2.2.2.1, K.2.2.2.2.1⟩ hM (cwV nA K.2.2.2.2.1 hG hw hrc hrs hdd hRm) ⟨q_blind, ⟨cell, g1, g2, g3⟩, fun U hU hW => ⟨rfl, by rw [hU]; exact hR, va_K.moved hW.alike hK, fun q hq => va_Nw.warmM hW (hN q hq), ly_T.step hT hW (fun q h1 h2 => by rw [hU]; exact hS.2.1 q h1 h2)⟩⟩ rfl hn hl.1 hst (lv_room hcat) hd ⟨Nat.zero_le _, Nat.zero_le _⟩) hS hl kk
end VSTRC
theorem q_by (k : Nat) (h : k < 146) : (((q_bytes.getD k 0) &&& 255).toUInt32 % 65536).toInt32 = q_bytes.getD k 0 ∧ narrow .char (.int (q_bytes.getD k 0)) = .int (q_bytes.getD k 0) := by
  have : ∀ k, k < 146 → ((((q_bytes.getD k 0) &&& 255).toUInt32 % 65536).toInt32 = q_bytes.getD k 0 ∧ narrow .char (.int (q_bytes.getD k 0)) = .int (q_bytes.getD k 0)) := by decide +kernel
  exact this k h
abbrev wqJ0_coder : List Cond := .code yJ0_coder_7d493 cJ0_coder_7d493 1 (some .byte) :: wsL_law
abbrev wqJ0_length : List Cond := .code yJ0_length_8abf5 cJ0_length_8abf5 1 (some .int) :: wsL_law
abbrev wqJ0_isLatin1 : List Cond := .code yJ0_isLatin1_aae02 cJ0_isLatin1_aae02 1 (some .boolean) :: wsL_law
abbrev wqJ3_checkIndex : List Cond := .code yJ3_checkIndex_8e157 cJ3_checkIndex_8e157 3 (some .int) :: wsL_law
abbrev wqJ0_checkIndex : List Cond := .code yJ0_checkIndex_df160 cJ0_checkIndex_df160 2 none :: wsL_law
abbrev wqJ1_charAt : List Cond := .code yJ1_charAt_3b067 cJ1_charAt_3b067 2 (some .char) :: wsL_law
abbrev wqJ0_charAt : List Cond := .code yJ0_charAt_5068e cJ0_charAt_5068e 2 (some .char) :: wsL_law
abbrev rmJ_0 : Room := { frames := 0, cells := 0, slots := 0, locals := 0 }
abbrev rmJ_1 : Room := { frames := 1, cells := 0, slots := 0, locals := 40 }
abbrev rmJ_2 : Room := { frames := 2, cells := 0, slots := 0, locals := 80 }
abbrev rmJ_3 : Room := { frames := 3, cells := 0, slots := 0, locals := 120 }
abbrev rmJ_4 : Room := { frames := 4, cells := 0, slots := 0, locals := 160 }
theorem jd_J3_checkIndex : yJ3_checkIndex_8e157.cls ≠ "java/lang/invoke/MethodHandle" ∧ yJ3_checkIndex_8e157.cls ≠ "java/lang/invoke/VarHandle" ∧ (parseMethodDescriptor yJ3_checkIndex_8e157.desc).map (fun d => d.parameters.length) = some 3 := by decide +kernel
theorem jd_J0_checkIndex : yJ0_checkIndex_df160.cls ≠ "java/lang/invoke/MethodHandle" ∧ yJ0_checkIndex_df160.cls ≠ "java/lang/invoke/VarHandle" ∧ (parseMethodDescriptor yJ0_checkIndex_df160.desc).map (fun d => d.parameters.length) = some 2 := by decide +kernel
theorem jd_J1_charAt : yJ1_charAt_3b067.cls ≠ "java/lang/invoke/MethodHandle" ∧ yJ1_charAt_3b067.cls ≠ "java/lang/invoke/VarHandle" ∧ (parseMethodDescriptor yJ1_charAt_3b067.desc).map (fun d => d.parameters.length) = some 2 := by decide +kernel
theorem jd_J0_charAt : yJ0_charAt_5068e.cls = "java/lang/String" ∧ yJ0_charAt_5068e.cls ≠ "java/lang/invoke/MethodHandle" ∧ yJ0_charAt_5068e.cls ≠ "java/lang/invoke/VarHandle" ∧ (parseMethodDescriptor yJ0_charAt_5068e.desc).map (fun d => d.parameters.length) = some 1 := by decide +kernel
theorem kJ0_coder (l : Launch) {y : Ly} (hJ : ly_J y) {M : QM} : Met l yJ0_coder_7d493 wqJ0_coder rmJ_0 (q_P y [.ref (ly_c y 7)] M) (q_E y (some (.int 0)) M) 0 0 (ly_A y) := by
  refine q_met (by decide) rfl hJ rfl rfl rfl (fun x K hQ => ?_)
  refine v_ssta (pc := 0) K (List.mem_cons_of_mem _ jl_J0_38) dJ0_coder_7d493_0 ?_
  refine v_ifF_eq (pc := 3) (tgt := 13) K dJ0_coder_7d493_3 (by decide) (by decide) ?_
  refine v_aload_n (pc := 6) K dJ0_coder_7d493_6 0 rfl ?_
  refine v_scod (pc := 7) K (List.mem_cons_of_mem _ jl_J0_15) dJ0_coder_7d493_7 ?_
  refine v_goto (pc := 10) (tgt := 14) K dJ0_coder_7d493_10 (by decide) ?_
  exact v_zret (pc := 14) K hQ rfl dJ0_coder_7d493_14
theorem kJ0_length (l : Launch) {y : Ly} (hJ : ly_J y) {M : QM} : Met l yJ0_length_8abf5 wqJ0_length rmJ_1 (q_P y [.ref (ly_c y 7)] M) (q_E y (some (.int 146)) M) 0 0 (ly_A y) := by
  refine q_met (by decide) rfl hJ rfl rfl rfl (fun x K hQ => ?_)
  refine v_aload_n (pc := 0) K dJ0_length_8abf5_0 0 rfl ?_
  refine v_sval (pc := 1) K (List.mem_cons_of_mem _ jl_J0_9) dJ0_length_8abf5_1 ?_
  refine v_slen (pc := 4) K dJ0_length_8abf5_4 ?_
  refine v_aload_n (pc := 5) K dJ0_length_8abf5_5 0 rfl ?_
  refine v_callK (pc := 6) (As := []) (rest := [.int 146]) (st' := [.int 0, .int 146]) (r := some (.int 0)) (M1 := M) K (kJ0_coder l hJ) (jg_V jl_J0_335 jw_i_J0_coder_7d493 jw_s_J0_coder_7d493 jw_n_J0 jw_c_J0_coder_7d493) rfl rfl rfl (by decide +kernel) ⟨Nat.le_of_ble_eq_true rfl, Nat.le_of_ble_eq_true rfl⟩ rfl rfl (Nat.le_of_ble_eq_true rfl) dJ0_length_8abf5_6 rfl ?_
  refine v_ishr (pc := 9) K dJ0_length_8abf5_9 ?_
  exact v_iret (pc := 10) K hQ dJ0_length_8abf5_10
theorem kJ0_isLatin1 (l : Launch) {y : Ly} (hJ : ly_J y) {M : QM} : Met l yJ0_isLatin1_aae02 wqJ0_isLatin1 rmJ_0 (q_P y [.ref (ly_c y 7)] M) (q_E y (some (.int 1)) M) 0 0 (ly_A y) := by
  refine q_met (by decide) rfl hJ rfl rfl rfl (fun x K hQ => ?_)
  refine v_ssta (pc := 0) K (List.mem_cons_of_mem _ jl_J0_38) dJ0_isLatin1_aae02_0 ?_
  refine v_ifF_eq (pc := 3) (tgt := 17) K dJ0_isLatin1_aae02_3 (by decide) (by decide) ?_
  refine v_aload_n (pc := 6) K dJ0_isLatin1_aae02_6 0 rfl ?_
  refine v_scod (pc := 7) K (List.mem_cons_of_mem _ jl_J0_15) dJ0_isLatin1_aae02_7 ?_
  refine v_ifF_ne (pc := 10) (tgt := 17) K dJ0_isLatin1_aae02_10 (by decide) rfl ?_
  refine v_iconst (pc := 13) (v := 1) K dJ0_isLatin1_aae02_13 rfl ?_
  refine v_goto (pc := 14) (tgt := 18) K dJ0_isLatin1_aae02_14 (by decide) ?_
  exact v_zret (pc := 18) K hQ rfl dJ0_isLatin1_aae02_18
theorem q_sl3 {a b : Int32} {v : Value} (h : v.category = 1) : Nat.ble (lg_sl [.int a, .int b, v]).length 3 = true ∧ lv_args 0 [.int a, .int b, v] = [(0, .int a), (1, .int b), (2, v)] := by
  cases v <;> simp_all [lg_sl, Value.category, lv_args]
theorem kJ3_checkIndex (l : Launch) {y : Ly} (hJ : ly_J y) {M : QM} {i m : Int32} {v : Value} (hv : v.category = 1) (h0 : ¬ i < 0) (h1 : i < m) : Met l yJ3_checkIndex_8e157 wqJ3_checkIndex rmJ_0 (q_P y [.int i, .int m, v] M) (q_E y (some (.int i)) M) 0 0 (ly_A y) := by
  refine q_met (by decide) rfl hJ (q_sl3 hv).1 rfl rfl (fun x K hQ => ?_)
  rw [(q_sl3 hv).2]
  refine v_iload_n (pc := 0) K dJ3_checkIndex_8e157_0 0 rfl ?_
  refine v_ifF_lt (pc := 1) (tgt := 9) K dJ3_checkIndex_8e157_1 (by decide) h0 ?_
  refine v_iload_n (pc := 4) K dJ3_checkIndex_8e157_4 0 rfl ?_
  refine v_iload_n (pc := 5) K dJ3_checkIndex_8e157_5 1 rfl ?_
  refine v_icmpT_lt (pc := 6) (tgt := 16) K dJ3_checkIndex_8e157_6 (by decide) h1 ?_
  refine v_iload_n (pc := 16) K dJ3_checkIndex_8e157_16 0 rfl ?_
  exact v_iret (pc := 17) K hQ dJ3_checkIndex_8e157_17
theorem kJ0_checkIndex (l : Launch) {y : Ly} (hJ : ly_J y) {M : QM} {i m : Int32} (h0 : ¬ i < 0) (h1 : i < m) : Met l yJ0_checkIndex_df160 wqJ0_checkIndex rmJ_1 (q_P y [.int i, .int m] M) (q_E y none M) 0 0 (ly_A y) := by
  refine q_met (by decide) rfl hJ rfl rfl rfl (fun x K hQ => ?_)
  refine v_iload_n (pc := 0) K dJ0_checkIndex_df160_0 0 rfl ?_
  refine v_iload_n (pc := 1) K dJ0_checkIndex_df160_1 1 rfl ?_
  refine v_sfmt (pc := 2) K (List.mem_cons_of_mem _ jl_J0_1053) dJ0_checkIndex_df160_2 (fun v hv => ?_)
  refine v_callS (pc := 5) (As := [.int i, .int m, v]) (rest := []) (st' := [.int i]) (r := some (.int i)) (M1 := M) K (kJ3_checkIndex l hJ hv h0 h1) (jg_S jl_J0_1059 jw_t_J3_checkIndex_8e157 jw_n_J3 jw_c_J3_checkIndex_8e157) rfl rfl rfl jd_J3_checkIndex ⟨Nat.le_of_ble_eq_true rfl, Nat.le_of_ble_eq_true rfl⟩ rfl rfl (Nat.le_of_ble_eq_true rfl) dJ0_checkIndex_df160_5 rfl ?_
  refine v_pop (pc := 8) K dJ0_checkIndex_df160_8 rfl ?_
  exact v_vret (pc := 9) K hQ dJ0_checkIndex_df160_9
theorem kJ1_charAt (l : Launch) {y : Ly} (hJ : ly_J y) {M : QM} {k : Nat} (hk : k < 146) : Met l yJ1_charAt_3b067 wqJ1_charAt rmJ_2 (q_P y [.ref (ly_c y 8), .int (nI k)] M) (q_E y (some (.int (q_bytes.getD k 0))) M) 0 0 (ly_A y) := by
  refine q_met (by decide) rfl hJ rfl rfl rfl (fun x K hQ => ?_)
  refine v_iload_n (pc := 0) K dJ1_charAt_3b067_0 1 rfl ?_
  refine v_aload_n (pc := 1) K dJ1_charAt_3b067_1 0 rfl ?_
  refine v_slen (pc := 2) K dJ1_charAt_3b067_2 ?_
  refine v_callS (pc := 3) (As := [.int (nI k), .int 146]) (rest := []) (st' := []) (r := none) (M1 := M) K (kJ0_checkIndex l hJ (nI_pos (by omega)) (nI_lt (b := 146) hk (by omega))) (jg_S jl_J1_9 jw_t_J0_checkIndex_df160 jw_n_J0 jw_c_J0_checkIndex_df160) rfl rfl rfl jd_J0_checkIndex ⟨Nat.le_of_ble_eq_true rfl, Nat.le_of_ble_eq_true rfl⟩ rfl rfl (Nat.le_of_ble_eq_true rfl) dJ1_charAt_3b067_3 rfl ?_
  refine v_aload_n (pc := 6) K dJ1_charAt_3b067_6 0 rfl ?_
  refine v_iload_n (pc := 7) K dJ1_charAt_3b067_7 1 rfl ?_
  refine v_sbald (pc := 8) K k (nI_pos (by omega)) (nI_clamp (by omega)) hk dJ1_charAt_3b067_8 ?_
  refine v_sipush (pc := 9) (v := 255) K dJ1_charAt_3b067_9 rfl ?_
  refine v_iand (pc := 12) K dJ1_charAt_3b067_12 ?_
  refine v_i2c (pc := 13) K dJ1_charAt_3b067_13 (q_by k hk).1 ?_
  exact v_zret (pc := 14) K hQ (q_by k hk).2 dJ1_charAt_3b067_14
theorem kJ0_charAt (l : Launch) {y : Ly} (hJ : ly_J y) {M : QM} {k : Nat} (hk : k < 146) : Met l yJ0_charAt_5068e wqJ0_charAt rmJ_3 (q_P y [.ref (ly_c y 7), .int (nI k)] M) (q_E y (some (.int (q_bytes.getD k 0))) M) 0 0 (ly_A y) := by
  refine q_met (by decide) rfl hJ rfl rfl rfl (fun x K hQ => ?_)
  refine v_aload_n (pc := 0) K dJ0_charAt_5068e_0 0 rfl ?_
  refine v_callK (pc := 1) (As := []) (rest := []) (st' := [.int 1]) (r := some (.int 1)) (M1 := M) K (kJ0_isLatin1 l hJ) (jg_V jl_J0_492 jw_i_J0_isLatin1_aae02 jw_s_J0_isLatin1_aae02 jw_n_J0 jw_c_J0_isLatin1_aae02) rfl rfl rfl (by decide +kernel) ⟨Nat.le_of_ble_eq_true rfl, Nat.le_of_ble_eq_true rfl⟩ rfl rfl (Nat.le_of_ble_eq_true rfl) dJ0_charAt_5068e_1 rfl ?_
  refine v_ifF_eq (pc := 4) (tgt := 16) K dJ0_charAt_5068e_4 (by decide) (by decide) ?_
  refine v_aload_n (pc := 7) K dJ0_charAt_5068e_7 0 rfl ?_
  refine v_sval (pc := 8) K (List.mem_cons_of_mem _ jl_J0_9) dJ0_charAt_5068e_8 ?_
  refine v_iload_n (pc := 11) K dJ0_charAt_5068e_11 1 rfl ?_
  refine v_callS (pc := 12) (As := [.ref (ly_c y 8), .int (nI k)]) (rest := []) (st' := [.int (q_bytes.getD k 0)]) (r := some (.int (q_bytes.getD k 0))) (M1 := M) K (kJ1_charAt l hJ hk) (jg_S jl_J0_495 jw_t_J1_charAt_3b067 jw_n_J1 jw_c_J1_charAt_3b067) rfl rfl rfl jd_J1_charAt ⟨Nat.le_of_ble_eq_true rfl, Nat.le_of_ble_eq_true rfl⟩ rfl rfl (Nat.le_of_ble_eq_true rfl) dJ0_charAt_5068e_12 rfl ?_
  exact v_zret (pc := 15) K hQ (q_by k hk).2 dJ0_charAt_5068e_15
