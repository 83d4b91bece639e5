theorem jd_X5_readPart : yX5_readPart.cls = RX5 ∧ yX5_readPart.cls ≠ "java/lang/invoke/MethodHandle" ∧ yX5_readPart.cls ≠ "java/lang/invoke/VarHandle" ∧ (parseMethodDescriptor yX5_readPart.desc).map (fun d => d.parameters.length) = some 1 := by decide +kernel
abbrev rmX5_readPart (d : Nat) : Room := { frames := 3 * d + 8, cells := 0, slots := 0, locals := 72 * d + 178 }
abbrev wqX5_readPart : List Cond := .code yX5_readPart cX5_readPart 3 (some .boolean) :: wsL_law
theorem jd_X5_readTest : yX5_readTest.cls = RX5 ∧ yX5_readTest.cls ≠ "java/lang/invoke/MethodHandle" ∧ yX5_readTest.cls ≠ "java/lang/invoke/VarHandle" ∧ (parseMethodDescriptor yX5_readTest.desc).map (fun d => d.parameters.length) = some 1 := by decide +kernel
abbrev rmX5_readTest (d : Nat) : Room := { frames := 3 * d + 9, cells := 0, slots := 0, locals := 72 * d + 202 }
abbrev wqX5_readTest : List Cond := .code yX5_readTest cX5_readTest 3 (some .boolean) :: wsL_law
theorem jd_X5_readFact : yX5_readFact.cls = RX5 ∧ yX5_readFact.cls ≠ "java/lang/invoke/MethodHandle" ∧ yX5_readFact.cls ≠ "java/lang/invoke/VarHandle" ∧ (parseMethodDescriptor yX5_readFact.desc).map (fun d => d.parameters.length) = some 1 := by decide +kernel
abbrev rmX5_readFact (d : Nat) : Room := { frames := 3 * d + 7, cells := 0, slots := 0, locals := 72 * d + 154 }
abbrev wqX5_readFact : List Cond := .code yX5_readFact cX5_readFact 5 (some .boolean) :: wsL_law
-- ===== X5_wordFrom (II)I
theorem jd_X5_wordFrom : yX5_wordFrom.cls = RX5 ∧ yX5_wordFrom.cls ≠ "java/lang/invoke/MethodHandle" ∧ yX5_wordFrom.cls ≠ "java/lang/invoke/VarHandle" ∧ (parseMethodDescriptor yX5_wordFrom.desc).map (fun d => d.parameters.length) = some 2 := by decide +kernel
abbrev wqX5_wordFrom : List Cond := .code yX5_wordFrom cX5_wordFrom 4 (some .int) :: wsL_law
abbrev rmX5_wordFrom : Room := { frames := 1, cells := 0, slots := 0, locals := 21 }
def fX5_wordFrom (M : QM) (x1 : Int32) (x2 : Int32) : Option (Int32 × QM) := (q_b (fX9_kindAt M (q_i M 2 2)) fun r2 M3 => if r2 < x1 then some ((-1 : Int32), M3) else if x2 ≤ r2 then some ((-1 : Int32), M3) else some (r2 - x1, M3))
set_option maxRecDepth 100000 in
set_option maxHeartbeats 4000000 in
theorem bX5_wordFrom_0 {x : Cx} {y : Ly} (l : Launch) (K : VK x l rmX5_wordFrom y 4 cX5_wordFrom RX5 wqX5_wordFrom) (hy : y.2.2.2.2 = 0) {z : Int32 × QM} (hQ : VQ x y (some (.int z.1)) z.2 (some .int)) {M : QM} {x1 : Int32} {x2 : Int32} (hF : fX5_wordFrom M x1 x2 = some z) : V x y 4 M 0 [(0, .ref (ly_o y 2)), (1, .int x1), (2, .int x2)] [] := by
  unfold fX5_wordFrom at hF
  refine v_aload_n (pc := 0) K dX5_wordFrom_0 0 rfl ?_
  refine gX5_tokens (pc := 1) K hy (by decide) jn_X5 (List.mem_cons_of_mem _ jl_X5_12) dX5_wordFrom_1 ?_
  refine v_aload_n (pc := 4) K dX5_wordFrom_4 0 rfl ?_
  refine gX5_at (pc := 5) K hy (by decide) jn_X5 (List.mem_cons_of_mem _ jl_X5_32) dX5_wordFrom_5 ?_
  obtain ⟨r2, M3, hc1, hF⟩ := q_bE hF
  refine v_callV (pc := 8) (ci := 8) (As := [.int (q_i M 2 2)]) (rest := []) (st' := [.int r2]) (r := some (.int r2)) (M1 := M3) K (kX9_kindAt l K.2.2.2.2.2.2.1 hy hc1) (jg_V jl_X5_54 jw_i_X9_kindAt jw_s_X9_kindAt jw_n_X9 jw_c_X9_kindAt) rfl rfl rfl jd_X9_kindAt ⟨Nat.le_of_ble_eq_true rfl, Nat.le_of_ble_eq_true rfl⟩ rfl rfl (Nat.le_of_ble_eq_true rfl) (by decide) (okc_0 hy (by decide)) rfl dX5_wordFrom_8 rfl ?_
  refine v_istore_n (pc := 11) (lv' := [(3, .int r2), (0, .ref (ly_o y 2)), (1, .int x1), (2, .int x2)]) K dX5_wordFrom_11 3 rfl (by decide) rfl ?_
  refine v_iload_n (pc := 12) K dX5_wordFrom_12 0 rfl ?_
  refine v_iload_n (pc := 13) K dX5_wordFrom_13 2 rfl ?_
  refine v_icmp_lt (pc := 14) (tgt := 28) K dX5_wordFrom_14 (by decide) hF (fun c5 hF => ?_) (fun c5 hF => ?_)
  · refine v_iconst (pc := 28) (v := -1) K dX5_wordFrom_28 rfl ?_
    have hz := (Option.some.inj hF).symm
    subst hz
    exact v_iret (pc := 29) K hQ dX5_wordFrom_29
  · refine v_iload_n (pc := 17) K dX5_wordFrom_17 0 rfl ?_
    refine v_iload_n (pc := 18) K dX5_wordFrom_18 3 rfl ?_
    refine v_icmp_ge (pc := 19) (tgt := 28) K dX5_wordFrom_19 (by decide) hF (fun c4 hF => ?_) (fun c4 hF => ?_)
    · refine v_iconst (pc := 28) (v := -1) K dX5_wordFrom_28 rfl ?_
      have hz := (Option.some.inj hF).symm
      subst hz
      exact v_iret (pc := 29) K hQ dX5_wordFrom_29
    · refine v_iload_n (pc := 22) K dX5_wordFrom_22 0 rfl ?_
      refine v_iload_n (pc := 23) K dX5_wordFrom_23 2 rfl ?_
      refine v_isub (pc := 24) K dX5_wordFrom_24 ?_
      refine v_goto (pc := 25) (tgt := 29) K dX5_wordFrom_25 (by decide) ?_
      have hz := (Option.some.inj hF).symm
      subst hz
      exact v_iret (pc := 29) K hQ dX5_wordFrom_29
set_option maxRecDepth 100000 in
set_option maxHeartbeats 4000000 in
theorem kX5_wordFrom (l : Launch) {y : Ly} (hJ : ly_J y) (hy : y.2.2.2.2 = 0) {M M1 : QM} {r : Int32} {x1 : Int32} {x2 : Int32} (hF : fX5_wordFrom M x1 x2 = some (r, M1)) : Met l yX5_wordFrom wqX5_wordFrom rmX5_wordFrom (q_P y [.ref (ly_o y 2), .int x1, .int x2] M) (q_E y (some (.int r)) M1) 0 0 (ly_A y) :=
  q_met (by decide) rfl hJ rfl rfl rfl (fun x K hQ => bX5_wordFrom_0 l K hy (z := (r, M1)) hQ  hF)
-- ===== X5_fail (I)Z
theorem jd_X5_fail : yX5_fail.cls = RX5 ∧ yX5_fail.cls ≠ "java/lang/invoke/MethodHandle" ∧ yX5_fail.cls ≠ "java/lang/invoke/VarHandle" ∧ (parseMethodDescriptor yX5_fail.desc).map (fun d => d.parameters.length) = some 1 := by decide +kernel
abbrev wqX5_fail : List Cond := .code yX5_fail cX5_fail 2 (some .boolean) :: wsL_law
abbrev rmX5_fail : Room := { frames := 1, cells := 0, slots := 0, locals := 21 }
def fX5_fail (M : QM) (x1 : Int32) : Option (Int32 × QM) := (q_b (fX9_placeAt M (q_i M 2 2)) fun r2 M3 => (q_t (p_i M3 2 4 (((1 : Int32) + ((8 : Int32) * r2)) + x1)) fun M4 => some ((0 : Int32), M4)))
set_option maxRecDepth 100000 in
set_option maxHeartbeats 4000000 in
theorem bX5_fail_0 {x : Cx} {y : Ly} (l : Launch) (K : VK x l rmX5_fail y 2 cX5_fail RX5 wqX5_fail) (hy : y.2.2.2.2 = 0) {z : Int32 × QM} (hQ : VQ x y (some (.int z.1)) z.2 (some .boolean)) {M : QM} {x1 : Int32} (hF : fX5_fail M x1 = some z) : V x y 2 M 0 [(0, .ref (ly_o y 2)), (1, .int x1)] [] := by
  unfold fX5_fail at hF
  refine v_aload_n (pc := 0) K dX5_fail_0 0 rfl ?_
  refine v_iconst (pc := 1) (v := 1) K dX5_fail_1 rfl ?_
  refine v_bipush (pc := 2) (v := 8) K dX5_fail_2 rfl ?_
  refine v_aload_n (pc := 4) K dX5_fail_4 0 rfl ?_
  refine gX5_tokens (pc := 5) K hy (by decide) jn_X5 (List.mem_cons_of_mem _ jl_X5_12) dX5_fail_5 ?_
  refine v_aload_n (pc := 8) K dX5_fail_8 0 rfl ?_
  refine gX5_at (pc := 9) K hy (by decide) jn_X5 (List.mem_cons_of_mem _ jl_X5_32) dX5_fail_9 ?_
  obtain ⟨r2, M3, hc1, hF⟩ := q_bE hF
  refine v_callV (pc := 12) (ci := 8) (As := [.int (q_i M 2 2)]) (rest := [.int (8 : Int32), .int (1 : Int32), .ref (ly_o y 2)]) (st' := [.int r2, .int (8 : Int32), .int (1 : Int32), .ref (ly_o y 2)]) (r := some (.int r2)) (M1 := M3) K (kX9_placeAt l K.2.2.2.2.2.2.1 hy hc1) (jg_V jl_X5_121 jw_i_X9_placeAt jw_s_X9_placeAt jw_n_X9 jw_c_X9_placeAt) rfl rfl rfl jd_X9_placeAt ⟨Nat.le_of_ble_eq_true rfl, Nat.le_of_ble_eq_true rfl⟩ rfl rfl (Nat.le_of_ble_eq_true rfl) (by decide) (okc_0 hy (by decide)) rfl dX5_fail_12 rfl ?_
  refine v_imul (pc := 15) K dX5_fail_15 ?_
  refine v_iadd (pc := 16) K dX5_fail_16 ?_
  refine v_iload_n (pc := 17) K dX5_fail_17 1 rfl ?_
  refine v_iadd (pc := 18) K dX5_fail_18 ?_
  refine pX5_fault (pc := 19) K hy (by decide) jn_X5 (List.mem_cons_of_mem _ jl_X5_39) dX5_fail_19 ?_
  refine v_nmM hF (fun M4 hF => ?_)
  refine v_iconst (pc := 22) (v := 0) K dX5_fail_22 rfl ?_
  have hz := (Option.some.inj hF).symm
  subst hz
  exact v_zret (pc := 23) K hQ rfl dX5_fail_23
set_option maxRecDepth 100000 in
set_option maxHeartbeats 4000000 in
theorem kX5_fail (l : Launch) {y : Ly} (hJ : ly_J y) (hy : y.2.2.2.2 = 0) {M M1 : QM} {r : Int32} {x1 : Int32} (hF : fX5_fail M x1 = some (r, M1)) : Met l yX5_fail wqX5_fail rmX5_fail (q_P y [.ref (ly_o y 2), .int x1] M) (q_E y (some (.int r)) M1) 0 0 (ly_A y) :=
  q_met (by decide) rfl hJ rfl rfl rfl (fun x K hQ => bX5_fail_0 l K hy (z := (r, M1)) hQ  hF)
-- ===== X5_takesNumber (II)Z
theorem jd_X5_takesNumber : yX5_takesNumber.cls = RX5 ∧ yX5_takesNumber.cls ≠ "java/lang/invoke/MethodHandle" ∧ yX5_takesNumber.cls ≠ "java/lang/invoke/VarHandle" ∧ (parseMethodDescriptor yX5_takesNumber.desc).map (fun d => d.parameters.length) = some 2 := by decide +kernel
abbrev wqX5_takesNumber : List Cond := .code yX5_takesNumber cX5_takesNumber 3 (some .boolean) :: wsL_law
abbrev rmX5_takesNumber : Room := { frames := 2, cells := 0, slots := 0, locals := 42 }
def fX5_takesNumber (M : QM) (x1 : Int32) (x2 : Int32) : Option (Int32 × QM) := (q_b (fX9_kindAt M (q_i M 2 2)) fun r2 M3 => if r2 = (30 : Int32) then (q_b (fX9_numberAt M3 (q_i M3 2 2)) fun r5 M6 => (q_b (fX11_isWithin M6 r5 x1 x2) fun r8 M9 => if r8 ≠ (0 : Int32) then (q_t (p_i M9 2 2 ((q_i M9 2 2) + (1 : Int32))) fun M10 => some ((1 : Int32), M10)) else (q_b (fX5_fail M9 (1 : Int32)) fun r12 M13 => if q_z r12 then some (r12, M13) else none))) else (q_b (fX5_fail M3 (0 : Int32)) fun r17 M18 => if q_z r17 then some (r17, M18) else none))
set_option maxRecDepth 100000 in
set_option maxHeartbeats 4000000 in
theorem bX5_takesNumber_0 {x : Cx} {y : Ly} (l : Launch) (K : VK x l rmX5_takesNumber y 3 cX5_takesNumber RX5 wqX5_takesNumber) (hy : y.2.2.2.2 = 0) {z : Int32 × QM} (hQ : VQ x y (some (.int z.1)) z.2 (some .boolean)) {M : QM} {x1 : Int32} {x2 : Int32} (hF : fX5_takesNumber M x1 x2 = some z) : V x y 3 M 0 [(0, .ref (ly_o y 2)), (1, .int x1), (2, .int x2)] [] := by
  unfold fX5_takesNumber at hF
  refine v_aload_n (pc := 0) K dX5_takesNumber_0 0 rfl ?_
  refine gX5_tokens (pc := 1) K hy (by decide) jn_X5 (List.mem_cons_of_mem _ jl_X5_12) dX5_takesNumber_1 ?_
  refine v_aload_n (pc := 4) K dX5_takesNumber_4 0 rfl ?_
  refine gX5_at (pc := 5) K hy (by decide) jn_X5 (List.mem_cons_of_mem _ jl_X5_32) dX5_takesNumber_5 ?_
  obtain ⟨r2, M3, hc1, hF⟩ := q_bE hF
  refine v_callV (pc := 8) (ci := 8) (As := [.int (q_i M 2 2)]) (rest := []) (st' := [.int r2]) (r := some (.int r2)) (M1 := M3) K (kX9_kindAt l K.2.2.2.2.2.2.1 hy hc1) (jg_V jl_X5_54 jw_i_X9_kindAt jw_s_X9_kindAt jw_n_X9 jw_c_X9_kindAt) rfl rfl rfl jd_X9_kindAt ⟨Nat.le_of_ble_eq_true rfl, Nat.le_of_ble_eq_true rfl⟩ rfl rfl (Nat.le_of_ble_eq_true rfl) (by decide) (okc_0 hy (by decide)) rfl dX5_takesNumber_8 rfl ?_
  refine v_bipush (pc := 11) (v := 30) K dX5_takesNumber_11 rfl ?_
  refine v_icmp_eq (pc := 13) (tgt := 22) K dX5_takesNumber_13 (by decide) hF (fun c20 hF => ?_) (fun c20 hF => ?_)
  · refine v_aload_n (pc := 22) K dX5_takesNumber_22 0 rfl ?_
    refine gX5_tokens (pc := 23) K hy (by decide) jn_X5 (List.mem_cons_of_mem _ jl_X5_12) dX5_takesNumber_23 ?_
    refine v_aload_n (pc := 26) K dX5_takesNumber_26 0 rfl ?_
    refine gX5_at (pc := 27) K hy (by decide) jn_X5 (List.mem_cons_of_mem _ jl_X5_32) dX5_takesNumber_27 ?_
    obtain ⟨r5, M6, hc4, hF⟩ := q_bE hF
    refine v_callV (pc := 30) (ci := 8) (As := [.int (q_i M3 2 2)]) (rest := []) (st' := [.int r5]) (r := some (.int r5)) (M1 := M6) K (kX9_numberAt l K.2.2.2.2.2.2.1 hy hc4) (jg_V jl_X5_85 jw_i_X9_numberAt jw_s_X9_numberAt jw_n_X9 jw_c_X9_numberAt) rfl rfl rfl jd_X9_numberAt ⟨Nat.le_of_ble_eq_true rfl, Nat.le_of_ble_eq_true rfl⟩ rfl rfl (Nat.le_of_ble_eq_true rfl) (by decide) (okc_0 hy (by decide)) rfl dX5_takesNumber_30 rfl ?_
    refine v_iload_n (pc := 33) K dX5_takesNumber_33 1 rfl ?_
    refine v_iload_n (pc := 34) K dX5_takesNumber_34 2 rfl ?_
    obtain ⟨r8, M9, hc7, hF⟩ := q_bE hF
    refine v_callSN (host := "TwoCards") (pc := 35) (As := [.int r5, .int x1, .int x2]) (rest := []) (st' := [.int r8]) (r := some (.int r8)) (M1 := M9) K (kX11_isWithin l K.2.2.2.2.2.2.1 hy hc7) (jg_cons jw_c_X11_isWithin) (List.mem_cons_of_mem _ jw_t_X11_isWithin) (List.mem_cons_of_mem _ jw_n_X11) (by decide +kernel) rfl rfl rfl jd_X11_isWithin ⟨Nat.le_of_ble_eq_true rfl, Nat.le_of_ble_eq_true rfl⟩ rfl rfl (Nat.le_of_ble_eq_true rfl) dX5_takesNumber_35 rfl ?_
    refine v_if_ne (pc := 38) (tgt := 47) K dX5_takesNumber_38 (by decide) hF (fun c15 hF => ?_) (fun c15 hF => ?_)
    · refine v_aload_n (pc := 47) K dX5_takesNumber_47 0 rfl ?_
      refine v_dup (pc := 48) K dX5_takesNumber_48 rfl ?_
      refine gX5_at (pc := 49) K hy (by decide) jn_X5 (List.mem_cons_of_mem _ jl_X5_32) dX5_takesNumber_49 ?_
      refine v_iconst (pc := 52) (v := 1) K dX5_takesNumber_52 rfl ?_
      refine v_iadd (pc := 53) K dX5_takesNumber_53 ?_
      refine pX5_at (pc := 54) K hy (by decide) jn_X5 (List.mem_cons_of_mem _ jl_X5_32) dX5_takesNumber_54 ?_
      refine v_nmM hF (fun M10 hF => ?_)
      refine v_iconst (pc := 57) (v := 1) K dX5_takesNumber_57 rfl ?_
      have hz := (Option.some.inj hF).symm
      subst hz
      exact v_zret (pc := 58) K hQ rfl dX5_takesNumber_58
    · refine v_aload_n (pc := 41) K dX5_takesNumber_41 0 rfl ?_
      refine v_iconst (pc := 42) (v := 1) K dX5_takesNumber_42 rfl ?_
      obtain ⟨r12, M13, hc11, hF⟩ := q_bE hF
      refine v_callV (pc := 43) (ci := 5) (As := [.int (1 : Int32)]) (rest := []) (st' := [.int r12]) (r := some (.int r12)) (M1 := M13) K (kX5_fail l K.2.2.2.2.2.2.1 hy hc11) (jg_V jl_X5_61 jw_i_X5_fail jw_s_X5_fail jw_n_X5 jw_c_X5_fail) rfl rfl rfl jd_X5_fail ⟨Nat.le_of_ble_eq_true rfl, Nat.le_of_ble_eq_true rfl⟩ rfl rfl (Nat.le_of_ble_eq_true rfl) (by decide) (okc_0 hy (by decide)) rfl dX5_takesNumber_43 rfl ?_
      obtain ⟨hz14, hF⟩ := q_kE hF
      have hz := (Option.some.inj hF).symm
      subst hz
      exact v_zret (pc := 46) K hQ (q_zn hz14) dX5_takesNumber_46
  · refine v_aload_n (pc := 16) K dX5_takesNumber_16 0 rfl ?_
    refine v_iconst (pc := 17) (v := 0) K dX5_takesNumber_17 rfl ?_
    obtain ⟨r17, M18, hc16, hF⟩ := q_bE hF
    refine v_callV (pc := 18) (ci := 5) (As := [.int (0 : Int32)]) (rest := []) (st' := [.int r17]) (r := some (.int r17)) (M1 := M18) K (kX5_fail l K.2.2.2.2.2.2.1 hy hc16) (jg_V jl_X5_61 jw_i_X5_fail jw_s_X5_fail jw_n_X5 jw_c_X5_fail) rfl rfl rfl jd_X5_fail ⟨Nat.le_of_ble_eq_true rfl, Nat.le_of_ble_eq_true rfl⟩ rfl rfl (Nat.le_of_ble_eq_true rfl) (by decide) (okc_0 hy (by decide)) rfl dX5_takesNumber_18 rfl ?_
    obtain ⟨hz19, hF⟩ := q_kE hF
    have hz := (Option.some.inj hF).symm
    subst hz
    exact v_zret (pc := 21) K hQ (q_zn hz19) dX5_takesNumber_21
set_option maxRecDepth 100000 in
set_option maxHeartbeats 4000000 in
theorem kX5_takesNumber (l : Launch) {y : Ly} (hJ : ly_J y) (hy : y.2.2.2.2 = 0) {M M1 : QM} {r : Int32} {x1 : Int32} {x2 : Int32} (hF : fX5_takesNumber M x1 x2 = some (r, M1)) : Met l yX5_takesNumber wqX5_takesNumber rmX5_takesNumber (q_P y [.ref (ly_o y 2), .int x1, .int x2] M) (q_E y (some (.int r)) M1) 0 0 (ly_A y) :=
  q_met (by decide) rfl hJ rfl rfl rfl (fun x K hQ => bX5_takesNumber_0 l K hy (z := (r, M1)) hQ  hF)
-- ===== X5_takes (I)Z
theorem jd_X5_takes : yX5_takes.cls = RX5 ∧ yX5_takes.cls ≠ "java/lang/invoke/MethodHandle" ∧ yX5_takes.cls ≠ "java/lang/invoke/VarHandle" ∧ (parseMethodDescriptor yX5_takes.desc).map (fun d => d.parameters.length) = some 1 := by decide +kernel
abbrev wqX5_takes : List Cond := .code yX5_takes cX5_takes 2 (some .boolean) :: wsL_law
abbrev rmX5_takes : Room := { frames := 1, cells := 0, slots := 0, locals := 21 }
def fX5_takes (M : QM) (x1 : Int32) : Option (Int32 × QM) := (q_b (fX9_kindAt M (q_i M 2 2)) fun r2 M3 => if r2 = x1 then (q_t (p_i M3 2 2 ((q_i M3 2 2) + (1 : Int32))) fun M4 => some ((1 : Int32), M4)) else some ((0 : Int32), M3))
set_option maxRecDepth 100000 in
set_option maxHeartbeats 4000000 in
theorem bX5_takes_0 {x : Cx} {y : Ly} (l : Launch) (K : VK x l rmX5_takes y 2 cX5_takes RX5 wqX5_takes) (hy : y.2.2.2.2 = 0) {z : Int32 × QM} (hQ : VQ x y (some (.int z.1)) z.2 (some .boolean)) {M : QM} {x1 : Int32} (hF : fX5_takes M x1 = some z) : V x y 2 M 0 [(0, .ref (ly_o y 2)), (1, .int x1)] [] := by
  unfold fX5_takes at hF
  refine v_aload_n (pc := 0) K dX5_takes_0 0 rfl ?_
  refine gX5_tokens (pc := 1) K hy (by decide) jn_X5 (List.mem_cons_of_mem _ jl_X5_12) dX5_takes_1 ?_
  refine v_aload_n (pc := 4) K dX5_takes_4 0 rfl ?_
  refine gX5_at (pc := 5) K hy (by decide) jn_X5 (List.mem_cons_of_mem _ jl_X5_32) dX5_takes_5 ?_
  obtain ⟨r2, M3, hc1, hF⟩ := q_bE hF
  refine v_callV (pc := 8) (ci := 8) (As := [.int (q_i M 2 2)]) (rest := []) (st' := [.int r2]) (r := some (.int r2)) (M1 := M3) K (kX9_kindAt l K.2.2.2.2.2.2.1 hy hc1) (jg_V jl_X5_54 jw_i_X9_kindAt jw_s_X9_kindAt jw_n_X9 jw_c_X9_kindAt) rfl rfl rfl jd_X9_kindAt ⟨Nat.le_of_ble_eq_true rfl, Nat.le_of_ble_eq_true rfl⟩ rfl rfl (Nat.le_of_ble_eq_true rfl) (by decide) (okc_0 hy (by decide)) rfl dX5_takes_8 rfl ?_
  refine v_iload_n (pc := 11) K dX5_takes_11 1 rfl ?_
  refine v_icmp_eq (pc := 12) (tgt := 17) K dX5_takes_12 (by decide) hF (fun c5 hF => ?_) (fun c5 hF => ?_)
  · refine v_aload_n (pc := 17) K dX5_takes_17 0 rfl ?_
    refine v_dup (pc := 18) K dX5_takes_18 rfl ?_
    refine gX5_at (pc := 19) K hy (by decide) jn_X5 (List.mem_cons_of_mem _ jl_X5_32) dX5_takes_19 ?_
    refine v_iconst (pc := 22) (v := 1) K dX5_takes_22 rfl ?_
    refine v_iadd (pc := 23) K dX5_takes_23 ?_
    refine pX5_at (pc := 24) K hy (by decide) jn_X5 (List.mem_cons_of_mem _ jl_X5_32) dX5_takes_24 ?_
    refine v_nmM hF (fun M4 hF => ?_)
    refine v_iconst (pc := 27) (v := 1) K dX5_takes_27 rfl ?_
    have hz := (Option.some.inj hF).symm
    subst hz
    exact v_zret (pc := 28) K hQ rfl dX5_takes_28
  · refine v_iconst (pc := 15) (v := 0) K dX5_takes_15 rfl ?_
    have hz := (Option.some.inj hF).symm
    subst hz
    exact v_zret (pc := 16) K hQ rfl dX5_takes_16
set_option maxRecDepth 100000 in
set_option maxHeartbeats 4000000 in
theorem kX5_takes (l : Launch) {y : Ly} (hJ : ly_J y) (hy : y.2.2.2.2 = 0) {M M1 : QM} {r : Int32} {x1 : Int32} (hF : fX5_takes M x1 = some (r, M1)) : Met l yX5_takes wqX5_takes rmX5_takes (q_P y [.ref (ly_o y 2), .int x1] M) (q_E y (some (.int r)) M1) 0 0 (ly_A y) :=
  q_met (by decide) rfl hJ rfl rfl rfl (fun x K hQ => bX5_takes_0 l K hy (z := (r, M1)) hQ  hF)
-- ===== X5_readWeight (III)Z
theorem jd_X5_readWeight : yX5_readWeight.cls = RX5 ∧ yX5_readWeight.cls ≠ "java/lang/invoke/MethodHandle" ∧ yX5_readWeight.cls ≠ "java/lang/invoke/VarHandle" ∧ (parseMethodDescriptor yX5_readWeight.desc).map (fun d => d.parameters.length) = some 3 := by decide +kernel
abbrev wqX5_readWeight : List Cond := .code yX5_readWeight cX5_readWeight 5 (some .boolean) :: wsL_law
abbrev rmX5_readWeight : Room := { frames := 3, cells := 0, slots := 0, locals := 64 }
def fX5_readWeight (M : QM) (x1 : Int32) (x2 : Int32) (x3 : Int32) : Option (Int32 × QM) := if (0 : Int32) ≤ x2 then (q_t (p_i M 2 2 ((q_i M 2 2) + (1 : Int32))) fun M1 => (q_b (fX9_numberAt M1 (q_i M1 2 2)) fun r3 M4 => (q_b (fX5_takesNumber M4 (0 : Int32) x3) fun r6 M7 => if r6 ≠ (0 : Int32) then (q_bv (fX2_addClause M7 (q_r M7 2 1) x1 x2 r3) fun M11 => (q_b (fX5_takes M11 (14 : Int32)) fun r13 M14 => (if q_z r13 then (q_t (p_i M14 2 5 r13) fun M16 => some ((1 : Int32), M16)) else none))) else some ((0 : Int32), M7)))) else (q_b (fX5_fail M (0 : Int32)) fun r19 M20 => if q_z r19 then some (r19, M20) else none)
set_option maxRecDepth 100000 in
set_option maxHeartbeats 4000000 in
theorem bX5_readWeight_0 {x : Cx} {y : Ly} (l : Launch) (K : VK x l rmX5_readWeight y 5 cX5_readWeight RX5 wqX5_readWeight) (hy : y.2.2.2.2 = 0) {z : Int32 × QM} (hQ : VQ x y (some (.int z.1)) z.2 (some .boolean)) {M : QM} {x1 : Int32} {x2 : Int32} {x3 : Int32} (hF : fX5_readWeight M x1 x2 x3 = some z) : V x y 5 M 0 [(0, .ref (ly_o y 2)), (1, .int x1), (2, .int x2), (3, .int x3)] [] := by
  unfold fX5_readWeight at hF
  refine v_iload_n (pc := 0) K dX5_readWeight_0 2 rfl ?_
  refine v_if_ge (pc := 1) (tgt := 10) K dX5_readWeight_1 (by decide) hF (fun c22 hF => ?_) (fun c22 hF => ?_)
  · refine v_aload_n (pc := 10) K dX5_readWeight_10 0 rfl ?_
    refine v_dup (pc := 11) K dX5_readWeight_11 rfl ?_
    refine gX5_at (pc := 12) K hy (by decide) jn_X5 (List.mem_cons_of_mem _ jl_X5_32) dX5_readWeight_12 ?_
    refine v_iconst (pc := 15) (v := 1) K dX5_readWeight_15 rfl ?_
    refine v_iadd (pc := 16) K dX5_readWeight_16 ?_
    refine pX5_at (pc := 17) K hy (by decide) jn_X5 (List.mem_cons_of_mem _ jl_X5_32) dX5_readWeight_17 ?_
    refine v_nmM hF (fun M1 hF => ?_)
    refine v_aload_n (pc := 20) K dX5_readWeight_20 0 rfl ?_
    refine gX5_tokens (pc := 21) K hy (by decide) jn_X5 (List.mem_cons_of_mem _ jl_X5_12) dX5_readWeight_21 ?_
    refine v_aload_n (pc := 24) K dX5_readWeight_24 0 rfl ?_
    refine gX5_at (pc := 25) K hy (by decide) jn_X5 (List.mem_cons_of_mem _ jl_X5_32) dX5_readWeight_25 ?_
    obtain ⟨r3, M4, hc2, hF⟩ := q_bE hF
    refine v_callV (pc := 28) (ci := 8) (As := [.int (q_i M1 2 2)]) (rest := []) (st' := [.int r3]) (r := some (.int r3)) (M1 := M4) K (kX9_numberAt l K.2.2.2.2.2.2.1 hy hc2) (jg_V jl_X5_85 jw_i_X9_numberAt jw_s_X9_numberAt jw_n_X9 jw_c_X9_numberAt) rfl rfl rfl jd_X9_numberAt ⟨Nat.le_of_ble_eq_true rfl, Nat.le_of_ble_eq_true rfl⟩ rfl rfl (Nat.le_of_ble_eq_true rfl) (by decide) (okc_0 hy (by decide)) rfl dX5_readWeight_28 rfl ?_
    refine v_istore (pc := 31) (lv' := [(4, .int r3), (0, .ref (ly_o y 2)), (1, .int x1), (2, .int x2), (3, .int x3)]) K 4 dX5_readWeight_31 (by decide) rfl ?_
    refine v_aload_n (pc := 33) K dX5_readWeight_33 1 rfl ?_
    refine v_iconst (pc := 34) (v := 0) K dX5_readWeight_34 rfl ?_
    refine v_iload_n (pc := 35) K dX5_readWeight_35 4 rfl ?_
    obtain ⟨r6, M7, hc5, hF⟩ := q_bE hF
    refine v_callV (pc := 36) (ci := 5) (As := [.int (0 : Int32), .int x3]) (rest := []) (st' := [.int r6]) (r := some (.int r6)) (M1 := M7) K (kX5_takesNumber l K.2.2.2.2.2.2.1 hy hc5) (jg_V jl_X5_88 jw_i_X5_takesNumber jw_s_X5_takesNumber jw_n_X5 jw_c_X5_takesNumber) rfl rfl rfl jd_X5_takesNumber ⟨Nat.le_of_ble_eq_true rfl, Nat.le_of_ble_eq_true rfl⟩ rfl rfl (Nat.le_of_ble_eq_true rfl) (by decide) (okc_0 hy (by decide)) rfl dX5_readWeight_36 rfl ?_
    refine v_if_ne (pc := 39) (tgt := 44) K dX5_readWeight_39 (by decide) hF (fun c17 hF => ?_) (fun c17 hF => ?_)
    · refine v_aload_n (pc := 44) K dX5_readWeight_44 1 rfl ?_
      refine gX5_code (pc := 45) K hy (by decide) jn_X5 (List.mem_cons_of_mem _ jl_X5_21) dX5_readWeight_45 ?_
      refine v_known (o := 2) (c := 5) (j := 1) (by decide) (okc_0 hy (by decide)) (by decide) rfl (fun hr8 => ?_)
      refine v_iload_n (pc := 48) K dX5_readWeight_48 2 rfl ?_
      refine v_iload_n (pc := 49) K dX5_readWeight_49 3 rfl ?_
      refine v_iload (pc := 50) K dX5_readWeight_50 0 rfl ?_
      obtain ⟨M11, hc9, hF⟩ := q_bvE hF
      refine v_callV (pc := 52) (ci := 2) (As := [.int x1, .int x2, .int r3]) (rest := []) (st' := []) (r := none) (M1 := M11) K (kX2_addClause l K.2.2.2.2.2.2.1 hy hr8 hc9) (jg_V jl_X5_78 jw_i_X2_addClause jw_s_X2_addClause jw_n_X2 jw_c_X2_addClause) rfl rfl rfl jd_X2_addClause ⟨Nat.le_of_ble_eq_true rfl, Nat.le_of_ble_eq_true rfl⟩ rfl rfl (Nat.le_of_ble_eq_true rfl) hr8 (okc_0 hy (by decide)) rfl dX5_readWeight_52 rfl ?_
      refine v_aload_n (pc := 55) K dX5_readWeight_55 1 rfl ?_
      refine v_aload_n (pc := 56) K dX5_readWeight_56 1 rfl ?_
      refine v_bipush (pc := 57) (v := 14) K dX5_readWeight_57 rfl ?_
      obtain ⟨r13, M14, hc12, hF⟩ := q_bE hF
      refine v_callV (pc := 59) (ci := 5) (As := [.int (14 : Int32)]) (rest := [.ref (ly_o y 2)]) (st' := [.int r13, .ref (ly_o y 2)]) (r := some (.int r13)) (M1 := M14) K (kX5_takes l K.2.2.2.2.2.2.1 hy hc12) (jg_V jl_X5_58 jw_i_X5_takes jw_s_X5_takes jw_n_X5 jw_c_X5_takes) rfl rfl rfl jd_X5_takes ⟨Nat.le_of_ble_eq_true rfl, Nat.le_of_ble_eq_true rfl⟩ rfl rfl (Nat.le_of_ble_eq_true rfl) (by decide) (okc_0 hy (by decide)) rfl dX5_readWeight_59 rfl ?_
      obtain ⟨hz15, hF⟩ := q_kE hF
      refine pX5_isTested (pc := 62) K hy (by decide) jn_X5 (List.mem_cons_of_mem _ jl_X5_46) hz15 dX5_readWeight_62 ?_
      refine v_nmM hF (fun M16 hF => ?_)
      refine v_iconst (pc := 65) (v := 1) K dX5_readWeight_65 rfl ?_
      have hz := (Option.some.inj hF).symm
      subst hz
      exact v_zret (pc := 66) K hQ rfl dX5_readWeight_66
    · refine v_iconst (pc := 42) (v := 0) K dX5_readWeight_42 rfl ?_
      have hz := (Option.some.inj hF).symm
      subst hz
      exact v_zret (pc := 43) K hQ rfl dX5_readWeight_43
  · refine v_aload_n (pc := 4) K dX5_readWeight_4 0 rfl ?_
    refine v_iconst (pc := 5) (v := 0) K dX5_readWeight_5 rfl ?_
    obtain ⟨r19, M20, hc18, hF⟩ := q_bE hF
    refine v_callV (pc := 6) (ci := 5) (As := [.int (0 : Int32)]) (rest := []) (st' := [.int r19]) (r := some (.int r19)) (M1 := M20) K (kX5_fail l K.2.2.2.2.2.2.1 hy hc18) (jg_V jl_X5_61 jw_i_X5_fail jw_s_X5_fail jw_n_X5 jw_c_X5_fail) rfl rfl rfl jd_X5_fail ⟨Nat.le_of_ble_eq_true rfl, Nat.le_of_ble_eq_true rfl⟩ rfl rfl (Nat.le_of_ble_eq_true rfl) (by decide) (okc_0 hy (by decide)) rfl dX5_readWeight_6 rfl ?_
    obtain ⟨hz21, hF⟩ := q_kE hF
    have hz := (Option.some.inj hF).symm
    subst hz
    exact v_zret (pc := 9) K hQ (q_zn hz21) dX5_readWeight_9
set_option maxRecDepth 100000 in
set_option maxHeartbeats 4000000 in
theorem kX5_readWeight (l : Launch) {y : Ly} (hJ : ly_J y) (hy : y.2.2.2.2 = 0) {M M1 : QM} {r : Int32} {x1 : Int32} {x2 : Int32} {x3 : Int32} (hF : fX5_readWeight M x1 x2 x3 = some (r, M1)) : Met l yX5_readWeight wqX5_readWeight rmX5_readWeight (q_P y [.ref (ly_o y 2), .int x1, .int x2, .int x3] M) (q_E y (some (.int r)) M1) 0 0 (ly_A y) :=
  q_met (by decide) rfl hJ rfl rfl rfl (fun x K hQ => bX5_readWeight_0 l K hy (z := (r, M1)) hQ  hF)
-- ===== X5_readMeasure (III)Z
theorem jd_X5_readMeasure : yX5_readMeasure.cls = RX5 ∧ yX5_readMeasure.cls ≠ "java/lang/invoke/MethodHandle" ∧ yX5_readMeasure.cls ≠ "java/lang/invoke/VarHandle" ∧ (parseMethodDescriptor yX5_readMeasure.desc).map (fun d => d.parameters.length) = some 3 := by decide +kernel
abbrev wqX5_readMeasure : List Cond := .code yX5_readMeasure cX5_readMeasure 5 (some .boolean) :: wsL_law
abbrev rmX5_readMeasure : Room := { frames := 3, cells := 0, slots := 0, locals := 64 }
def fX5_readMeasure (M : QM) (x1 : Int32) (x2 : Int32) (x3 : Int32) : Option (Int32 × QM) := (q_b (fX9_numberAt M (q_i M 2 2)) fun r2 M3 => (q_b (fX5_takesNumber M3 x2 x3) fun r5 M6 => if r5 ≠ (0 : Int32) then (q_bv (fX2_addClause M6 (q_r M6 2 1) x1 (0 : Int32) r2) fun M10 => (q_bv (fX2_setMeasure M10 (q_r M10 2 1) x1 r2) fun M14 => some ((1 : Int32), M14))) else some ((0 : Int32), M6)))
set_option maxRecDepth 100000 in
set_option maxHeartbeats 4000000 in
theorem bX5_readMeasure_0 {x : Cx} {y : Ly} (l : Launch) (K : VK x l rmX5_readMeasure y 5 cX5_readMeasure RX5 wqX5_readMeasure) (hy : y.2.2.2.2 = 0) {z : Int32 × QM} (hQ : VQ x y (some (.int z.1)) z.2 (some .boolean)) {M : QM} {x1 : Int32} {x2 : Int32} {x3 : Int32} (hF : fX5_readMeasure M x1 x2 x3 = some z) : V x y 5 M 0 [(0, .ref (ly_o y 2)), (1, .int x1), (2, .int x2), (3, .int x3)] [] := by
  unfold fX5_readMeasure at hF
  refine v_aload_n (pc := 0) K dX5_readMeasure_0 0 rfl ?_
  refine gX5_tokens (pc := 1) K hy (by decide) jn_X5 (List.mem_cons_of_mem _ jl_X5_12) dX5_readMeasure_1 ?_
  refine v_aload_n (pc := 4) K dX5_readMeasure_4 0 rfl ?_
  refine gX5_at (pc := 5) K hy (by decide) jn_X5 (List.mem_cons_of_mem _ jl_X5_32) dX5_readMeasure_5 ?_
  obtain ⟨r2, M3, hc1, hF⟩ := q_bE hF
  refine v_callV (pc := 8) (ci := 8) (As := [.int (q_i M 2 2)]) (rest := []) (st' := [.int r2]) (r := some (.int r2)) (M1 := M3) K (kX9_numberAt l K.2.2.2.2.2.2.1 hy hc1) (jg_V jl_X5_85 jw_i_X9_numberAt jw_s_X9_numberAt jw_n_X9 jw_c_X9_numberAt) rfl rfl rfl jd_X9_numberAt ⟨Nat.le_of_ble_eq_true rfl, Nat.le_of_ble_eq_true rfl⟩ rfl rfl (Nat.le_of_ble_eq_true rfl) (by decide) (okc_0 hy (by decide)) rfl dX5_readMeasure_8 rfl ?_
  refine v_istore (pc := 11) (lv' := [(4, .int r2), (0, .ref (ly_o y 2)), (1, .int x1), (2, .int x2), (3, .int x3)]) K 4 dX5_readMeasure_11 (by decide) rfl ?_
  refine v_aload_n (pc := 13) K dX5_readMeasure_13 1 rfl ?_
  refine v_iload_n (pc := 14) K dX5_readMeasure_14 3 rfl ?_
  refine v_iload_n (pc := 15) K dX5_readMeasure_15 4 rfl ?_
  obtain ⟨r5, M6, hc4, hF⟩ := q_bE hF
  refine v_callV (pc := 16) (ci := 5) (As := [.int x2, .int x3]) (rest := []) (st' := [.int r5]) (r := some (.int r5)) (M1 := M6) K (kX5_takesNumber l K.2.2.2.2.2.2.1 hy hc4) (jg_V jl_X5_88 jw_i_X5_takesNumber jw_s_X5_takesNumber jw_n_X5 jw_c_X5_takesNumber) rfl rfl rfl jd_X5_takesNumber ⟨Nat.le_of_ble_eq_true rfl, Nat.le_of_ble_eq_true rfl⟩ rfl rfl (Nat.le_of_ble_eq_true rfl) (by decide) (okc_0 hy (by decide)) rfl dX5_readMeasure_16 rfl ?_
  refine v_if_ne (pc := 19) (tgt := 24) K dX5_readMeasure_19 (by decide) hF (fun c15 hF => ?_) (fun c15 hF => ?_)
  · refine v_aload_n (pc := 24) K dX5_readMeasure_24 1 rfl ?_
    refine gX5_code (pc := 25) K hy (by decide) jn_X5 (List.mem_cons_of_mem _ jl_X5_21) dX5_readMeasure_25 ?_
    refine v_known (o := 2) (c := 5) (j := 1) (by decide) (okc_0 hy (by decide)) (by decide) rfl (fun hr7 => ?_)
    refine v_iload_n (pc := 28) K dX5_readMeasure_28 2 rfl ?_
    refine v_iconst (pc := 29) (v := 0) K dX5_readMeasure_29 rfl ?_
    refine v_iload (pc := 30) K dX5_readMeasure_30 0 rfl ?_
    obtain ⟨M10, hc8, hF⟩ := q_bvE hF
    refine v_callV (pc := 32) (ci := 2) (As := [.int x1, .int (0 : Int32), .int r2]) (rest := []) (st' := []) (r := none) (M1 := M10) K (kX2_addClause l K.2.2.2.2.2.2.1 hy hr7 hc8) (jg_V jl_X5_78 jw_i_X2_addClause jw_s_X2_addClause jw_n_X2 jw_c_X2_addClause) rfl rfl rfl jd_X2_addClause ⟨Nat.le_of_ble_eq_true rfl, Nat.le_of_ble_eq_true rfl⟩ rfl rfl (Nat.le_of_ble_eq_true rfl) hr7 (okc_0 hy (by decide)) rfl dX5_readMeasure_32 rfl ?_
    refine v_aload_n (pc := 35) K dX5_readMeasure_35 1 rfl ?_
    refine gX5_code (pc := 36) K hy (by decide) jn_X5 (List.mem_cons_of_mem _ jl_X5_21) dX5_readMeasure_36 ?_
    refine v_known (o := 2) (c := 5) (j := 1) (by decide) (okc_0 hy (by decide)) (by decide) rfl (fun hr11 => ?_)
    refine v_iload_n (pc := 39) K dX5_readMeasure_39 2 rfl ?_
    refine v_iload (pc := 40) K dX5_readMeasure_40 0 rfl ?_
    obtain ⟨M14, hc12, hF⟩ := q_bvE hF
    refine v_callV (pc := 42) (ci := 2) (As := [.int x1, .int r2]) (rest := []) (st' := []) (r := none) (M1 := M14) K (kX2_setMeasure l K.2.2.2.2.2.2.1 hy hr11 hc12) (jg_V jl_X5_92 jw_i_X2_setMeasure jw_s_X2_setMeasure jw_n_X2 jw_c_X2_setMeasure) rfl rfl rfl jd_X2_setMeasure ⟨Nat.le_of_ble_eq_true rfl, Nat.le_of_ble_eq_true rfl⟩ rfl rfl (Nat.le_of_ble_eq_true rfl) hr11 (okc_0 hy (by decide)) rfl dX5_readMeasure_42 rfl ?_
    refine v_iconst (pc := 45) (v := 1) K dX5_readMeasure_45 rfl ?_
    have hz := (Option.some.inj hF).symm
    subst hz
    exact v_zret (pc := 46) K hQ rfl dX5_readMeasure_46
  · refine v_iconst (pc := 22) (v := 0) K dX5_readMeasure_22 rfl ?_
    have hz := (Option.some.inj hF).symm
    subst hz
    exact v_zret (pc := 23) K hQ rfl dX5_readMeasure_23
set_option maxRecDepth 100000 in
set_option maxHeartbeats 4000000 in
theorem kX5_readMeasure (l : Launch) {y : Ly} (hJ : ly_J y) (hy : y.2.2.2.2 = 0) {M M1 : QM} {r : Int32} {x1 : Int32} {x2 : Int32} {x3 : Int32} (hF : fX5_readMeasure M x1 x2 x3 = some (r, M1)) : Met l yX5_readMeasure wqX5_readMeasure rmX5_readMeasure (q_P y [.ref (ly_o y 2), .int x1, .int x2, .int x3] M) (q_E y (some (.int r)) M1) 0 0 (ly_A y) :=
  q_met (by decide) rfl hJ rfl rfl rfl (fun x K hQ => bX5_readMeasure_0 l K hy (z := (r, M1)) hQ  hF)
-- ===== X5_readHead ()Z
theorem jd_X5_readHead : yX5_readHead.cls = RX5 ∧ yX5_readHead.cls ≠ "java/lang/invoke/MethodHandle" ∧ yX5_readHead.cls ≠ "java/lang/invoke/VarHandle" ∧ (parseMethodDescriptor yX5_readHead.desc).map (fun d => d.parameters.length) = some 0 := by decide +kernel
abbrev wqX5_readHead : List Cond := .code yX5_readHead cX5_readHead 2 (some .boolean) :: wsL_law
abbrev rmX5_readHead : Room := { frames := 4, cells := 0, slots := 0, locals := 88 }
def fX5_readHead_b46 (M : QM) : Option (Int32 × QM) := (q_b (fX5_fail M (4 : Int32)) fun r57 M58 => if q_z r57 then some (r57, M58) else none)
set_option maxRecDepth 100000 in
set_option maxHeartbeats 4000000 in
theorem bX5_readHead_46 {x : Cx} {y : Ly} (l : Launch) (K : VK x l rmX5_readHead y 2 cX5_readHead RX5 wqX5_readHead) (hy : y.2.2.2.2 = 0) {z : Int32 × QM} (hQ : VQ x y (some (.int z.1)) z.2 (some .boolean)) {M : QM} (hF : fX5_readHead_b46 M  = some z) : V x y 2 M 46 [(0, .ref (ly_o y 2))] [] := by
  unfold fX5_readHead_b46 at hF
  refine v_aload_n (pc := 46) K dX5_readHead_46 0 rfl ?_
  refine v_iconst (pc := 47) (v := 4) K dX5_readHead_47 rfl ?_
  obtain ⟨r57, M58, hc56, hF⟩ := q_bE hF
  refine v_callV (pc := 48) (ci := 5) (As := [.int (4 : Int32)]) (rest := []) (st' := [.int r57]) (r := some (.int r57)) (M1 := M58) K (kX5_fail l K.2.2.2.2.2.2.1 hy hc56) (jg_V jl_X5_61 jw_i_X5_fail jw_s_X5_fail jw_n_X5 jw_c_X5_fail) rfl rfl rfl jd_X5_fail ⟨Nat.le_of_ble_eq_true rfl, Nat.le_of_ble_eq_true rfl⟩ rfl rfl (Nat.le_of_ble_eq_true rfl) (by decide) (okc_0 hy (by decide)) rfl dX5_readHead_48 rfl ?_
  obtain ⟨hz59, hF⟩ := q_kE hF
  have hz := (Option.some.inj hF).symm
  subst hz
  exact v_zret (pc := 51) K hQ (q_zn hz59) dX5_readHead_51
def fX5_readHead_b73 (M : QM) (x1 : Int32) (s0 : Int32) : Option (Int32 × QM) := (if q_z s0 then (q_t (p_i M 2 5 s0) fun M20 => if x1 = (0 : Int32) then (q_b (fX5_wordFrom M20 (6 : Int32) (10 : Int32)) fun r23 M24 => (q_b (fX5_readWeight M24 x1 r23 (9 : Int32)) fun r26 M27 => if q_z r26 then some (r26, M27) else none)) else if x1 = (1 : Int32) then (q_b (fX5_wordFrom M20 (10 : Int32) (14 : Int32)) fun r31 M32 => (q_b (fX5_readWeight M32 x1 r31 (15 : Int32)) fun r34 M35 => if q_z r34 then some (r34, M35) else none)) else if x1 = (2 : Int32) then (q_bv (fX2_addClause M20 (q_r M20 2 1) x1 (0 : Int32) (0 : Int32)) fun M41 => some ((1 : Int32), M41)) else if x1 = (3 : Int32) then (q_b (fX5_readMeasure M20 x1 (0 : Int32) (15 : Int32)) fun r44 M45 => if q_z r44 then some (r44, M45) else none) else if x1 = (4 : Int32) then (q_b (fX5_readMeasure M20 x1 (1 : Int32) (8 : Int32)) fun r49 M50 => if q_z r49 then some (r49, M50) else none) else (q_b (fX5_readMeasure M20 x1 (0 : Int32) (15 : Int32)) fun r53 M54 => if q_z r53 then some (r53, M54) else none)) else none)
set_option maxRecDepth 100000 in
set_option maxHeartbeats 4000000 in
theorem bX5_readHead_73 {x : Cx} {y : Ly} (l : Launch) (K : VK x l rmX5_readHead y 2 cX5_readHead RX5 wqX5_readHead) (hy : y.2.2.2.2 = 0) {z : Int32 × QM} (hQ : VQ x y (some (.int z.1)) z.2 (some .boolean)) {M : QM} {x1 : Int32} {s0 : Int32} (hF : fX5_readHead_b73 M x1 s0 = some z) : V x y 2 M 73 [(0, .ref (ly_o y 2)), (1, .int x1)] [.int s0, .ref (ly_o y 2)] := by
  unfold fX5_readHead_b73 at hF
  obtain ⟨hz19, hF⟩ := q_kE hF
  refine pX5_isTested (pc := 73) K hy (by decide) jn_X5 (List.mem_cons_of_mem _ jl_X5_46) hz19 dX5_readHead_73 ?_
  refine v_nmM hF (fun M20 hF => ?_)
  refine v_iload_n (pc := 76) K dX5_readHead_76 1 rfl ?_
  rcases q_iE hF with ⟨c21, hF⟩ | ⟨c21, hF⟩
  · refine v_tabE (pc := 77) (tgt := 112) (off := 35) K c21 dX5_readHead_77 (by decide) (by decide) (by decide +kernel) (by decide) ?_
    refine v_aload_n (pc := 112) K dX5_readHead_112 0 rfl ?_
    refine v_iload_n (pc := 113) K dX5_readHead_113 1 rfl ?_
    refine v_aload_n (pc := 114) K dX5_readHead_114 0 rfl ?_
    refine v_bipush (pc := 115) (v := 6) K dX5_readHead_115 rfl ?_
    refine v_bipush (pc := 117) (v := 10) K dX5_readHead_117 rfl ?_
    obtain ⟨r23, M24, hc22, hF⟩ := q_bE hF
    refine v_callV (pc := 119) (ci := 5) (As := [.int (6 : Int32), .int (10 : Int32)]) (rest := [.int x1, .ref (ly_o y 2)]) (st' := [.int r23, .int x1, .ref (ly_o y 2)]) (r := some (.int r23)) (M1 := M24) K (kX5_wordFrom l K.2.2.2.2.2.2.1 hy hc22) (jg_V jl_X5_64 jw_i_X5_wordFrom jw_s_X5_wordFrom jw_n_X5 jw_c_X5_wordFrom) rfl rfl rfl jd_X5_wordFrom ⟨Nat.le_of_ble_eq_true rfl, Nat.le_of_ble_eq_true rfl⟩ rfl rfl (Nat.le_of_ble_eq_true rfl) (by decide) (okc_0 hy (by decide)) rfl dX5_readHead_119 rfl ?_
    refine v_bipush (pc := 122) (v := 9) K dX5_readHead_122 rfl ?_
    obtain ⟨r26, M27, hc25, hF⟩ := q_bE hF
    refine v_callV (pc := 124) (ci := 5) (As := [.int x1, .int r23, .int (9 : Int32)]) (rest := []) (st' := [.int r26]) (r := some (.int r26)) (M1 := M27) K (kX5_readWeight l K.2.2.2.2.2.2.1 hy hc25) (jg_V jl_X5_74 jw_i_X5_readWeight jw_s_X5_readWeight jw_n_X5 jw_c_X5_readWeight) rfl rfl rfl jd_X5_readWeight ⟨Nat.le_of_ble_eq_true rfl, Nat.le_of_ble_eq_true rfl⟩ rfl rfl (Nat.le_of_ble_eq_true rfl) (by decide) (okc_0 hy (by decide)) rfl dX5_readHead_124 rfl ?_
    obtain ⟨hz28, hF⟩ := q_kE hF
    have hz := (Option.some.inj hF).symm
    subst hz
    exact v_zret (pc := 127) K hQ (q_zn hz28) dX5_readHead_127
  rcases q_iE hF with ⟨c29, hF⟩ | ⟨c29, hF⟩
  · refine v_tabE (pc := 77) (tgt := 128) (off := 51) K c29 dX5_readHead_77 (by decide) (by decide) (by decide +kernel) (by decide) ?_
    refine v_aload_n (pc := 128) K dX5_readHead_128 0 rfl ?_
    refine v_iload_n (pc := 129) K dX5_readHead_129 1 rfl ?_
    refine v_aload_n (pc := 130) K dX5_readHead_130 0 rfl ?_
    refine v_bipush (pc := 131) (v := 10) K dX5_readHead_131 rfl ?_
    refine v_bipush (pc := 133) (v := 14) K dX5_readHead_133 rfl ?_
    obtain ⟨r31, M32, hc30, hF⟩ := q_bE hF
    refine v_callV (pc := 135) (ci := 5) (As := [.int (10 : Int32), .int (14 : Int32)]) (rest := [.int x1, .ref (ly_o y 2)]) (st' := [.int r31, .int x1, .ref (ly_o y 2)]) (r := some (.int r31)) (M1 := M32) K (kX5_wordFrom l K.2.2.2.2.2.2.1 hy hc30) (jg_V jl_X5_64 jw_i_X5_wordFrom jw_s_X5_wordFrom jw_n_X5 jw_c_X5_wordFrom) rfl rfl rfl jd_X5_wordFrom ⟨Nat.le_of_ble_eq_true rfl, Nat.le_of_ble_eq_true rfl⟩ rfl rfl (Nat.le_of_ble_eq_true rfl) (by decide) (okc_0 hy (by decide)) rfl dX5_readHead_135 rfl ?_
    refine v_bipush (pc := 138) (v := 15) K dX5_readHead_138 rfl ?_
    obtain ⟨r34, M35, hc33, hF⟩ := q_bE hF
    refine v_callV (pc := 140) (ci := 5) (As := [.int x1, .int r31, .int (15 : Int32)]) (rest := []) (st' := [.int r34]) (r := some (.int r34)) (M1 := M35) K (kX5_readWeight l K.2.2.2.2.2.2.1 hy hc33) (jg_V jl_X5_74 jw_i_X5_readWeight jw_s_X5_readWeight jw_n_X5 jw_c_X5_readWeight) rfl rfl rfl jd_X5_readWeight ⟨Nat.le_of_ble_eq_true rfl, Nat.le_of_ble_eq_true rfl⟩ rfl rfl (Nat.le_of_ble_eq_true rfl) (by decide) (okc_0 hy (by decide)) rfl dX5_readHead_140 rfl ?_
    obtain ⟨hz36, hF⟩ := q_kE hF
    have hz := (Option.some.inj hF).symm
    subst hz
    exact v_zret (pc := 143) K hQ (q_zn hz36) dX5_readHead_143
  rcases q_iE hF with ⟨c37, hF⟩ | ⟨c37, hF⟩
  · refine v_tabE (pc := 77) (tgt := 144) (off := 67) K c37 dX5_readHead_77 (by decide) (by decide) (by decide +kernel) (by decide) ?_
    refine v_aload_n (pc := 144) K dX5_readHead_144 0 rfl ?_
    refine gX5_code (pc := 145) K hy (by decide) jn_X5 (List.mem_cons_of_mem _ jl_X5_21) dX5_readHead_145 ?_
    refine v_known (o := 2) (c := 5) (j := 1) (by decide) (okc_0 hy (by decide)) (by decide) rfl (fun hr38 => ?_)
    refine v_iload_n (pc := 148) K dX5_readHead_148 1 rfl ?_
    refine v_iconst (pc := 149) (v := 0) K dX5_readHead_149 rfl ?_
    refine v_iconst (pc := 150) (v := 0) K dX5_readHead_150 rfl ?_
    obtain ⟨M41, hc39, hF⟩ := q_bvE hF
    refine v_callV (pc := 151) (ci := 2) (As := [.int x1, .int (0 : Int32), .int (0 : Int32)]) (rest := []) (st' := []) (r := none) (M1 := M41) K (kX2_addClause l K.2.2.2.2.2.2.1 hy hr38 hc39) (jg_V jl_X5_78 jw_i_X2_addClause jw_s_X2_addClause jw_n_X2 jw_c_X2_addClause) rfl rfl rfl jd_X2_addClause ⟨Nat.le_of_ble_eq_true rfl, Nat.le_of_ble_eq_true rfl⟩ rfl rfl (Nat.le_of_ble_eq_true rfl) hr38 (okc_0 hy (by decide)) rfl dX5_readHead_151 rfl ?_
    refine v_iconst (pc := 154) (v := 1) K dX5_readHead_154 rfl ?_
    have hz := (Option.some.inj hF).symm
    subst hz
    exact v_zret (pc := 155) K hQ rfl dX5_readHead_155
  rcases q_iE hF with ⟨c42, hF⟩ | ⟨c42, hF⟩
  · refine v_tabE (pc := 77) (tgt := 165) (off := 88) K c42 dX5_readHead_77 (by decide) (by decide) (by decide +kernel) (by decide) ?_
    refine v_aload_n (pc := 165) K dX5_readHead_165 0 rfl ?_
    refine v_iload_n (pc := 166) K dX5_readHead_166 1 rfl ?_
    refine v_iconst (pc := 167) (v := 0) K dX5_readHead_167 rfl ?_
    refine v_bipush (pc := 168) (v := 15) K dX5_readHead_168 rfl ?_
    obtain ⟨r44, M45, hc43, hF⟩ := q_bE hF
    refine v_callV (pc := 170) (ci := 5) (As := [.int x1, .int (0 : Int32), .int (15 : Int32)]) (rest := []) (st' := [.int r44]) (r := some (.int r44)) (M1 := M45) K (kX5_readMeasure l K.2.2.2.2.2.2.1 hy hc43) (jg_V jl_X5_82 jw_i_X5_readMeasure jw_s_X5_readMeasure jw_n_X5 jw_c_X5_readMeasure) rfl rfl rfl jd_X5_readMeasure ⟨Nat.le_of_ble_eq_true rfl, Nat.le_of_ble_eq_true rfl⟩ rfl rfl (Nat.le_of_ble_eq_true rfl) (by decide) (okc_0 hy (by decide)) rfl dX5_readHead_170 rfl ?_
    obtain ⟨hz46, hF⟩ := q_kE hF
    have hz := (Option.some.inj hF).symm
    subst hz
    exact v_zret (pc := 173) K hQ (q_zn hz46) dX5_readHead_173
  rcases q_iE hF with ⟨c47, hF⟩ | ⟨c47, hF⟩
  · refine v_tabE (pc := 77) (tgt := 156) (off := 79) K c47 dX5_readHead_77 (by decide) (by decide) (by decide +kernel) (by decide) ?_
    refine v_aload_n (pc := 156) K dX5_readHead_156 0 rfl ?_
    refine v_iload_n (pc := 157) K dX5_readHead_157 1 rfl ?_
    refine v_iconst (pc := 158) (v := 1) K dX5_readHead_158 rfl ?_
    refine v_bipush (pc := 159) (v := 8) K dX5_readHead_159 rfl ?_
    obtain ⟨r49, M50, hc48, hF⟩ := q_bE hF
    refine v_callV (pc := 161) (ci := 5) (As := [.int x1, .int (1 : Int32), .int (8 : Int32)]) (rest := []) (st' := [.int r49]) (r := some (.int r49)) (M1 := M50) K (kX5_readMeasure l K.2.2.2.2.2.2.1 hy hc48) (jg_V jl_X5_82 jw_i_X5_readMeasure jw_s_X5_readMeasure jw_n_X5 jw_c_X5_readMeasure) rfl rfl rfl jd_X5_readMeasure ⟨Nat.le_of_ble_eq_true rfl, Nat.le_of_ble_eq_true rfl⟩ rfl rfl (Nat.le_of_ble_eq_true rfl) (by decide) (okc_0 hy (by decide)) rfl dX5_readHead_161 rfl ?_
    obtain ⟨hz51, hF⟩ := q_kE hF
    have hz := (Option.some.inj hF).symm
    subst hz
    exact v_zret (pc := 164) K hQ (q_zn hz51) dX5_readHead_164
  refine v_tabN (pc := 77) (tgt := 165) K dX5_readHead_77 (q_tn_0_4 c21 c29 c37 c42 c47) (by decide) ?_
  refine v_aload_n (pc := 165) K dX5_readHead_165 0 rfl ?_
  refine v_iload_n (pc := 166) K dX5_readHead_166 1 rfl ?_
  refine v_iconst (pc := 167) (v := 0) K dX5_readHead_167 rfl ?_
  refine v_bipush (pc := 168) (v := 15) K dX5_readHead_168 rfl ?_
  obtain ⟨r53, M54, hc52, hF⟩ := q_bE hF
  refine v_callV (pc := 170) (ci := 5) (As := [.int x1, .int (0 : Int32), .int (15 : Int32)]) (rest := []) (st' := [.int r53]) (r := some (.int r53)) (M1 := M54) K (kX5_readMeasure l K.2.2.2.2.2.2.1 hy hc52) (jg_V jl_X5_82 jw_i_X5_readMeasure jw_s_X5_readMeasure jw_n_X5 jw_c_X5_readMeasure) rfl rfl rfl jd_X5_readMeasure ⟨Nat.le_of_ble_eq_true rfl, Nat.le_of_ble_eq_true rfl⟩ rfl rfl (Nat.le_of_ble_eq_true rfl) (by decide) (okc_0 hy (by decide)) rfl dX5_readHead_170 rfl ?_
  obtain ⟨hz55, hF⟩ := q_kE hF
  have hz := (Option.some.inj hF).symm
  subst hz
  exact v_zret (pc := 173) K hQ (q_zn hz55) dX5_readHead_173
def fX5_readHead_b52 (M : QM) (x1 : Int32) : Option (Int32 × QM) := (q_t (p_i M 2 2 ((q_i M 2 2) + (1 : Int32))) fun M17 => if x1 ≠ (2 : Int32) then (fX5_readHead_b73 M17 x1 (0 : Int32)) else (fX5_readHead_b73 M17 x1 (1 : Int32)))
set_option maxRecDepth 100000 in
set_option maxHeartbeats 4000000 in
theorem bX5_readHead_52 {x : Cx} {y : Ly} (l : Launch) (K : VK x l rmX5_readHead y 2 cX5_readHead RX5 wqX5_readHead) (hy : y.2.2.2.2 = 0) {z : Int32 × QM} (hQ : VQ x y (some (.int z.1)) z.2 (some .boolean)) {M : QM} {x1 : Int32} (hF : fX5_readHead_b52 M x1 = some z) : V x y 2 M 52 [(0, .ref (ly_o y 2)), (1, .int x1)] [] := by
  unfold fX5_readHead_b52 at hF
  refine v_aload_n (pc := 52) K dX5_readHead_52 0 rfl ?_
  refine v_dup (pc := 53) K dX5_readHead_53 rfl ?_
  refine gX5_at (pc := 54) K hy (by decide) jn_X5 (List.mem_cons_of_mem _ jl_X5_32) dX5_readHead_54 ?_
  refine v_iconst (pc := 57) (v := 1) K dX5_readHead_57 rfl ?_
  refine v_iadd (pc := 58) K dX5_readHead_58 ?_
  refine pX5_at (pc := 59) K hy (by decide) jn_X5 (List.mem_cons_of_mem _ jl_X5_32) dX5_readHead_59 ?_
  refine v_nmM hF (fun M17 hF => ?_)
  refine v_aload_n (pc := 62) K dX5_readHead_62 0 rfl ?_
  refine v_iload_n (pc := 63) K dX5_readHead_63 1 rfl ?_
  refine v_iconst (pc := 64) (v := 2) K dX5_readHead_64 rfl ?_
  refine v_icmp_ne (pc := 65) (tgt := 72) K dX5_readHead_65 (by decide) hF (fun c18 hF => ?_) (fun c18 hF => ?_)
  · refine v_iconst (pc := 72) (v := 0) K dX5_readHead_72 rfl ?_
    exact bX5_readHead_73 l K hy hQ hF
  · refine v_iconst (pc := 68) (v := 1) K dX5_readHead_68 rfl ?_
    refine v_goto (pc := 69) (tgt := 73) K dX5_readHead_69 (by decide) ?_
    exact bX5_readHead_73 l K hy hQ hF
def fX5_readHead (M : QM) : Option (Int32 × QM) := (q_b (fX5_wordFrom M (0 : Int32) (6 : Int32)) fun r2 M3 => if (0 : Int32) ≤ r2 then if (14 : Int32) ≤ (q_i M3 (q_r M3 2 1) 8) then (fX5_readHead_b46 M3) else if r2 < (3 : Int32) then (fX5_readHead_b52 M3 r2) else (q_b (fX2_has M3 (q_r M3 2 1) r2) fun r7 M8 => if r7 = (0 : Int32) then (fX5_readHead_b52 M8 r2) else (fX5_readHead_b46 M8)) else (q_b (fX5_fail M3 (0 : Int32)) fun r13 M14 => if q_z r13 then some (r13, M14) else none))
set_option maxRecDepth 100000 in
set_option maxHeartbeats 4000000 in
theorem bX5_readHead_0 {x : Cx} {y : Ly} (l : Launch) (K : VK x l rmX5_readHead y 2 cX5_readHead RX5 wqX5_readHead) (hy : y.2.2.2.2 = 0) {z : Int32 × QM} (hQ : VQ x y (some (.int z.1)) z.2 (some .boolean)) {M : QM} (hF : fX5_readHead M  = some z) : V x y 2 M 0 [(0, .ref (ly_o y 2))] [] := by
  unfold fX5_readHead at hF
  refine v_aload_n (pc := 0) K dX5_readHead_0 0 rfl ?_
  refine v_iconst (pc := 1) (v := 0) K dX5_readHead_1 rfl ?_
  refine v_bipush (pc := 2) (v := 6) K dX5_readHead_2 rfl ?_
  obtain ⟨r2, M3, hc1, hF⟩ := q_bE hF
  refine v_callV (pc := 4) (ci := 5) (As := [.int (0 : Int32), .int (6 : Int32)]) (rest := []) (st' := [.int r2]) (r := some (.int r2)) (M1 := M3) K (kX5_wordFrom l K.2.2.2.2.2.2.1 hy hc1) (jg_V jl_X5_64 jw_i_X5_wordFrom jw_s_X5_wordFrom jw_n_X5 jw_c_X5_wordFrom) rfl rfl rfl jd_X5_wordFrom ⟨Nat.le_of_ble_eq_true rfl, Nat.le_of_ble_eq_true rfl⟩ rfl rfl (Nat.le_of_ble_eq_true rfl) (by decide) (okc_0 hy (by decide)) rfl dX5_readHead_4 rfl ?_
  refine v_istore_n (pc := 7) (lv' := [(1, .int r2), (0, .ref (ly_o y 2))]) K dX5_readHead_7 1 rfl (by decide) rfl ?_
  refine v_iload_n (pc := 8) K dX5_readHead_8 0 rfl ?_
  refine v_if_ge (pc := 9) (tgt := 18) K dX5_readHead_9 (by decide) hF (fun c16 hF => ?_) (fun c16 hF => ?_)
  · refine v_aload_n (pc := 18) K dX5_readHead_18 1 rfl ?_
    refine gX5_code (pc := 19) K hy (by decide) jn_X5 (List.mem_cons_of_mem _ jl_X5_21) dX5_readHead_19 ?_
    refine v_known (o := 2) (c := 5) (j := 1) (by decide) (okc_0 hy (by decide)) (by decide) rfl (fun hr4 => ?_)
    refine gX2_clauses (pc := 22) K hy hr4 jn_X2 (List.mem_cons_of_mem _ jl_X5_68) dX5_readHead_22 ?_
    refine v_bipush (pc := 25) (v := 14) K dX5_readHead_25 rfl ?_
    refine v_icmp_ge (pc := 27) (tgt := 46) K dX5_readHead_27 (by decide) hF (fun c11 hF => ?_) (fun c11 hF => ?_)
    · refine v_sub [1] rfl ?_
      exact bX5_readHead_46 l K hy hQ hF
    · refine v_iload_n (pc := 30) K dX5_readHead_30 0 rfl ?_
      refine v_iconst (pc := 31) (v := 3) K dX5_readHead_31 rfl ?_
      refine v_icmp_lt (pc := 32) (tgt := 52) K dX5_readHead_32 (by decide) hF (fun c10 hF => ?_) (fun c10 hF => ?_)
      · refine v_sub [1, 0] rfl ?_
        exact bX5_readHead_52 l K hy hQ hF
      · refine v_aload_n (pc := 35) K dX5_readHead_35 1 rfl ?_
        refine gX5_code (pc := 36) K hy (by decide) jn_X5 (List.mem_cons_of_mem _ jl_X5_21) dX5_readHead_36 ?_
        refine v_known (o := 2) (c := 5) (j := 1) (by decide) (okc_0 hy (by decide)) (by decide) rfl (fun hr5 => ?_)
        refine v_iload_n (pc := 39) K dX5_readHead_39 0 rfl ?_
        obtain ⟨r7, M8, hc6, hF⟩ := q_bE hF
        refine v_callV (pc := 40) (ci := 2) (As := [.int r2]) (rest := []) (st' := [.int r7]) (r := some (.int r7)) (M1 := M8) K (kX2_has l K.2.2.2.2.2.2.1 hy hr5 hc6) (jg_V jl_X5_71 jw_i_X2_has jw_s_X2_has jw_n_X2 jw_c_X2_has) rfl rfl rfl jd_X2_has ⟨Nat.le_of_ble_eq_true rfl, Nat.le_of_ble_eq_true rfl⟩ rfl rfl (Nat.le_of_ble_eq_true rfl) hr5 (okc_0 hy (by decide)) rfl dX5_readHead_40 rfl ?_
        refine v_if_eq (pc := 43) (tgt := 52) K dX5_readHead_43 (by decide) hF (fun c9 hF => ?_) (fun c9 hF => ?_)
        · refine v_sub [1, 0] rfl ?_
          exact bX5_readHead_52 l K hy hQ hF
        · refine v_sub [1] rfl ?_
          exact bX5_readHead_46 l K hy hQ hF
  · refine v_aload_n (pc := 12) K dX5_readHead_12 1 rfl ?_
    refine v_iconst (pc := 13) (v := 0) K dX5_readHead_13 rfl ?_
    obtain ⟨r13, M14, hc12, hF⟩ := q_bE hF
    refine v_callV (pc := 14) (ci := 5) (As := [.int (0 : Int32)]) (rest := []) (st' := [.int r13]) (r := some (.int r13)) (M1 := M14) K (kX5_fail l K.2.2.2.2.2.2.1 hy hc12) (jg_V jl_X5_61 jw_i_X5_fail jw_s_X5_fail jw_n_X5 jw_c_X5_fail) rfl rfl rfl jd_X5_fail ⟨Nat.le_of_ble_eq_true rfl, Nat.le_of_ble_eq_true rfl⟩ rfl rfl (Nat.le_of_ble_eq_true rfl) (by decide) (okc_0 hy (by decide)) rfl dX5_readHead_14 rfl ?_
    obtain ⟨hz15, hF⟩ := q_kE hF
    have hz := (Option.some.inj hF).symm
    subst hz
    exact v_zret (pc := 17) K hQ (q_zn hz15) dX5_readHead_17
set_option maxRecDepth 100000 in
set_option maxHeartbeats 4000000 in
theorem kX5_readHead (l : Launch) {y : Ly} (hJ : ly_J y) (hy : y.2.2.2.2 = 0) {M M1 : QM} {r : Int32} (hF : fX5_readHead M  = some (r, M1)) : Met l yX5_readHead wqX5_readHead rmX5_readHead (q_P y [.ref (ly_o y 2)] M) (q_E y (some (.int r)) M1) 0 0 (ly_A y) :=
  q_met (by decide) rfl hJ rfl rfl rfl (fun x K hQ => bX5_readHead_0 l K hy (z := (r, M1)) hQ  hF)
-- ===== X5_takesPart ()Z
theorem jd_X5_takesPart : yX5_takesPart.cls = RX5 ∧ yX5_takesPart.cls ≠ "java/lang/invoke/MethodHandle" ∧ yX5_takesPart.cls ≠ "java/lang/invoke/VarHandle" ∧ (parseMethodDescriptor yX5_takesPart.desc).map (fun d => d.parameters.length) = some 0 := by decide +kernel
abbrev wqX5_takesPart : List Cond := .code yX5_takesPart cX5_takesPart 1 (some .boolean) :: wsL_law
abbrev rmX5_takesPart : Room := { frames := 2, cells := 0, slots := 0, locals := 42 }
def fX5_takesPart (M : QM) : Option (Int32 × QM) := if (q_i M 2 3) < (50 : Int32) then (q_t (p_i M 2 3 ((q_i M 2 3) + (1 : Int32))) fun M1 => (q_t (p_i M1 2 2 ((q_i M1 2 2) + (1 : Int32))) fun M2 => some ((1 : Int32), M2))) else (q_b (fX5_fail M (3 : Int32)) fun r4 M5 => if q_z r4 then some (r4, M5) else none)
set_option maxRecDepth 100000 in
set_option maxHeartbeats 4000000 in
theorem bX5_takesPart_0 {x : Cx} {y : Ly} (l : Launch) (K : VK x l rmX5_takesPart y 1 cX5_takesPart RX5 wqX5_takesPart) (hy : y.2.2.2.2 = 0) {z : Int32 × QM} (hQ : VQ x y (some (.int z.1)) z.2 (some .boolean)) {M : QM} (hF : fX5_takesPart M  = some z) : V x y 1 M 0 [(0, .ref (ly_o y 2))] [] := by
  unfold fX5_takesPart at hF
  refine v_aload_n (pc := 0) K dX5_takesPart_0 0 rfl ?_
  refine gX5_parts (pc := 1) K hy (by decide) jn_X5 (List.mem_cons_of_mem _ jl_X5_36) dX5_takesPart_1 ?_
  refine v_bipush (pc := 4) (v := 50) K dX5_takesPart_4 rfl ?_
  refine v_icmp_lt (pc := 6) (tgt := 15) K dX5_takesPart_6 (by decide) hF (fun c7 hF => ?_) (fun c7 hF => ?_)
  · refine v_aload_n (pc := 15) K dX5_takesPart_15 0 rfl ?_
    refine v_dup (pc := 16) K dX5_takesPart_16 rfl ?_
    refine gX5_parts (pc := 17) K hy (by decide) jn_X5 (List.mem_cons_of_mem _ jl_X5_36) dX5_takesPart_17 ?_
    refine v_iconst (pc := 20) (v := 1) K dX5_takesPart_20 rfl ?_
    refine v_iadd (pc := 21) K dX5_takesPart_21 ?_
    refine pX5_parts (pc := 22) K hy (by decide) jn_X5 (List.mem_cons_of_mem _ jl_X5_36) dX5_takesPart_22 ?_
    refine v_nmM hF (fun M1 hF => ?_)
    refine v_aload_n (pc := 25) K dX5_takesPart_25 0 rfl ?_
    refine v_dup (pc := 26) K dX5_takesPart_26 rfl ?_
    refine gX5_at (pc := 27) K hy (by decide) jn_X5 (List.mem_cons_of_mem _ jl_X5_32) dX5_takesPart_27 ?_
    refine v_iconst (pc := 30) (v := 1) K dX5_takesPart_30 rfl ?_
    refine v_iadd (pc := 31) K dX5_takesPart_31 ?_
    refine pX5_at (pc := 32) K hy (by decide) jn_X5 (List.mem_cons_of_mem _ jl_X5_32) dX5_takesPart_32 ?_
    refine v_nmM hF (fun M2 hF => ?_)
    refine v_iconst (pc := 35) (v := 1) K dX5_takesPart_35 rfl ?_
    have hz := (Option.some.inj hF).symm
    subst hz
    exact v_zret (pc := 36) K hQ rfl dX5_takesPart_36
  · refine v_aload_n (pc := 9) K dX5_takesPart_9 0 rfl ?_
    refine v_iconst (pc := 10) (v := 3) K dX5_takesPart_10 rfl ?_
    obtain ⟨r4, M5, hc3, hF⟩ := q_bE hF
    refine v_callV (pc := 11) (ci := 5) (As := [.int (3 : Int32)]) (rest := []) (st' := [.int r4]) (r := some (.int r4)) (M1 := M5) K (kX5_fail l K.2.2.2.2.2.2.1 hy hc3) (jg_V jl_X5_61 jw_i_X5_fail jw_s_X5_fail jw_n_X5 jw_c_X5_fail) rfl rfl rfl jd_X5_fail ⟨Nat.le_of_ble_eq_true rfl, Nat.le_of_ble_eq_true rfl⟩ rfl rfl (Nat.le_of_ble_eq_true rfl) (by decide) (okc_0 hy (by decide)) rfl dX5_takesPart_11 rfl ?_
    obtain ⟨hz6, hF⟩ := q_kE hF
    have hz := (Option.some.inj hF).symm
    subst hz
    exact v_zret (pc := 14) K hQ (q_zn hz6) dX5_takesPart_14
set_option maxRecDepth 100000 in
set_option maxHeartbeats 4000000 in
theorem kX5_takesPart (l : Launch) {y : Ly} (hJ : ly_J y) (hy : y.2.2.2.2 = 0) {M M1 : QM} {r : Int32} (hF : fX5_takesPart M  = some (r, M1)) : Met l yX5_takesPart wqX5_takesPart rmX5_takesPart (q_P y [.ref (ly_o y 2)] M) (q_E y (some (.int r)) M1) 0 0 (ly_A y) :=
  q_met (by decide) rfl hJ rfl rfl rfl (fun x K hQ => bX5_takesPart_0 l K hy (z := (r, M1)) hQ  hF)
-- ===== X5_readValue ()Z
theorem jd_X5_readValue : yX5_readValue.cls = RX5 ∧ yX5_readValue.cls ≠ "java/lang/invoke/MethodHandle" ∧ yX5_readValue.cls ≠ "java/lang/invoke/VarHandle" ∧ (parseMethodDescriptor yX5_readValue.desc).map (fun d => d.parameters.length) = some 0 := by decide +kernel
abbrev wqX5_readValue : List Cond := .code yX5_readValue cX5_readValue 3 (some .boolean) :: wsL_law
abbrev rmX5_readValue : Room := { frames := 3, cells := 0, slots := 0, locals := 62 }
def fX5_readValue_b84 (M : QM) (s0 : Int32) (so1 : Nat) : Option (Int32 × QM) := (q_bv (fX2_addStep M so1 s0) fun M29 => some ((1 : Int32), M29))
set_option maxRecDepth 100000 in
set_option maxHeartbeats 4000000 in
theorem bX5_readValue_84 {x : Cx} {y : Ly} (l : Launch) (K : VK x l rmX5_readValue y 3 cX5_readValue RX5 wqX5_readValue) (hy : y.2.2.2.2 = 0) {z : Int32 × QM} (hQ : VQ x y (some (.int z.1)) z.2 (some .boolean)) {M : QM} {s0 : Int32} {so1 : Nat} (hso1 : kls so1 = 2) (hF : fX5_readValue_b84 M s0 so1 = some z) : V x y 3 M 84 [] [.int s0, .ref (ly_o y so1)] := by
  unfold fX5_readValue_b84 at hF
  obtain ⟨M29, hc27, hF⟩ := q_bvE hF
  refine v_callV (pc := 84) (ci := 2) (As := [.int s0]) (rest := []) (st' := []) (r := none) (M1 := M29) K (kX2_addStep l K.2.2.2.2.2.2.1 hy hso1 hc27) (jg_V jl_X5_99 jw_i_X2_addStep jw_s_X2_addStep jw_n_X2 jw_c_X2_addStep) rfl rfl rfl jd_X2_addStep ⟨Nat.le_of_ble_eq_true rfl, Nat.le_of_ble_eq_true rfl⟩ rfl rfl (Nat.le_of_ble_eq_true rfl) hso1 (okc_0 hy (by decide)) rfl dX5_readValue_84 rfl ?_
  refine v_iconst (pc := 87) (v := 1) K dX5_readValue_87 rfl ?_
  have hz := (Option.some.inj hF).symm
  subst hz
  exact v_zret (pc := 88) K hQ rfl dX5_readValue_88
def fX5_readValue_b35 (M : QM) (x1 : Int32) : Option (Int32 × QM) := (q_b (fX9_numberAt M (q_i M 2 2)) fun r14 M15 => if r14 ≠ (-1 : Int32) then (q_b (fX5_takesPart M15) fun r17 M18 => if r17 ≠ (0 : Int32) then if (0 : Int32) ≤ x1 then (fX5_readValue_b84 M18 ((10000 : Int32) + x1) (q_r M18 2 1)) else (fX5_readValue_b84 M18 r14 (q_r M18 2 1)) else some ((0 : Int32), M18)) else (q_b (fX5_fail M15 (1 : Int32)) fun r23 M24 => if q_z r23 then some (r23, M24) else none))
set_option maxRecDepth 100000 in
set_option maxHeartbeats 4000000 in
theorem bX5_readValue_35 {x : Cx} {y : Ly} (l : Launch) (K : VK x l rmX5_readValue y 3 cX5_readValue RX5 wqX5_readValue) (hy : y.2.2.2.2 = 0) {z : Int32 × QM} (hQ : VQ x y (some (.int z.1)) z.2 (some .boolean)) {M : QM} {x1 : Int32} (hF : fX5_readValue_b35 M x1 = some z) : V x y 3 M 35 [(0, .ref (ly_o y 2)), (1, .int x1)] [] := by
  unfold fX5_readValue_b35 at hF
  refine v_aload_n (pc := 35) K dX5_readValue_35 0 rfl ?_
  refine gX5_tokens (pc := 36) K hy (by decide) jn_X5 (List.mem_cons_of_mem _ jl_X5_12) dX5_readValue_36 ?_
  refine v_aload_n (pc := 39) K dX5_readValue_39 0 rfl ?_
  refine gX5_at (pc := 40) K hy (by decide) jn_X5 (List.mem_cons_of_mem _ jl_X5_32) dX5_readValue_40 ?_
  obtain ⟨r14, M15, hc13, hF⟩ := q_bE hF
  refine v_callV (pc := 43) (ci := 8) (As := [.int (q_i M 2 2)]) (rest := []) (st' := [.int r14]) (r := some (.int r14)) (M1 := M15) K (kX9_numberAt l K.2.2.2.2.2.2.1 hy hc13) (jg_V jl_X5_85 jw_i_X9_numberAt jw_s_X9_numberAt jw_n_X9 jw_c_X9_numberAt) rfl rfl rfl jd_X9_numberAt ⟨Nat.le_of_ble_eq_true rfl, Nat.le_of_ble_eq_true rfl⟩ rfl rfl (Nat.le_of_ble_eq_true rfl) (by decide) (okc_0 hy (by decide)) rfl dX5_readValue_43 rfl ?_
  refine v_istore_n (pc := 46) (lv' := [(2, .int r14), (0, .ref (ly_o y 2)), (1, .int x1)]) K dX5_readValue_46 2 rfl (by decide) rfl ?_
  refine v_iload_n (pc := 47) K dX5_readValue_47 0 rfl ?_
  refine v_iconst (pc := 48) (v := -1) K dX5_readValue_48 rfl ?_
  refine v_icmp_ne (pc := 49) (tgt := 58) K dX5_readValue_49 (by decide) hF (fun c26 hF => ?_) (fun c26 hF => ?_)
  · refine v_aload_n (pc := 58) K dX5_readValue_58 1 rfl ?_
    obtain ⟨r17, M18, hc16, hF⟩ := q_bE hF
    refine v_callV (pc := 59) (ci := 5) (As := []) (rest := []) (st' := [.int r17]) (r := some (.int r17)) (M1 := M18) K (kX5_takesPart l K.2.2.2.2.2.2.1 hy hc16) (jg_V jl_X5_112 jw_i_X5_takesPart jw_s_X5_takesPart jw_n_X5 jw_c_X5_takesPart) rfl rfl rfl jd_X5_takesPart ⟨Nat.le_of_ble_eq_true rfl, Nat.le_of_ble_eq_true rfl⟩ rfl rfl (Nat.le_of_ble_eq_true rfl) (by decide) (okc_0 hy (by decide)) rfl dX5_readValue_59 rfl ?_
    refine v_if_ne (pc := 62) (tgt := 67) K dX5_readValue_62 (by decide) hF (fun c21 hF => ?_) (fun c21 hF => ?_)
    · refine v_aload_n (pc := 67) K dX5_readValue_67 1 rfl ?_
      refine gX5_code (pc := 68) K hy (by decide) jn_X5 (List.mem_cons_of_mem _ jl_X5_21) dX5_readValue_68 ?_
      refine v_known (o := 2) (c := 5) (j := 1) (by decide) (okc_0 hy (by decide)) (by decide) rfl (fun hr19 => ?_)
      refine v_iload_n (pc := 71) K dX5_readValue_71 2 rfl ?_
      refine v_if_ge (pc := 72) (tgt := 79) K dX5_readValue_72 (by decide) hF (fun c20 hF => ?_) (fun c20 hF => ?_)
      · refine v_sipush (pc := 79) (v := 10000) K dX5_readValue_79 rfl ?_
        refine v_iload_n (pc := 82) K dX5_readValue_82 2 rfl ?_
        refine v_iadd (pc := 83) K dX5_readValue_83 ?_
        refine v_sub [] rfl ?_
        exact bX5_readValue_84 l K hy hQ hr19 hF
      · refine v_iload_n (pc := 75) K dX5_readValue_75 0 rfl ?_
        refine v_goto (pc := 76) (tgt := 84) K dX5_readValue_76 (by decide) ?_
        refine v_sub [] rfl ?_
        exact bX5_readValue_84 l K hy hQ hr19 hF
    · refine v_iconst (pc := 65) (v := 0) K dX5_readValue_65 rfl ?_
      have hz := (Option.some.inj hF).symm
      subst hz
      exact v_zret (pc := 66) K hQ rfl dX5_readValue_66
  · refine v_aload_n (pc := 52) K dX5_readValue_52 1 rfl ?_
    refine v_iconst (pc := 53) (v := 1) K dX5_readValue_53 rfl ?_
    obtain ⟨r23, M24, hc22, hF⟩ := q_bE hF
    refine v_callV (pc := 54) (ci := 5) (As := [.int (1 : Int32)]) (rest := []) (st' := [.int r23]) (r := some (.int r23)) (M1 := M24) K (kX5_fail l K.2.2.2.2.2.2.1 hy hc22) (jg_V jl_X5_61 jw_i_X5_fail jw_s_X5_fail jw_n_X5 jw_c_X5_fail) rfl rfl rfl jd_X5_fail ⟨Nat.le_of_ble_eq_true rfl, Nat.le_of_ble_eq_true rfl⟩ rfl rfl (Nat.le_of_ble_eq_true rfl) (by decide) (okc_0 hy (by decide)) rfl dX5_readValue_54 rfl ?_
    obtain ⟨hz25, hF⟩ := q_kE hF
    have hz := (Option.some.inj hF).symm
    subst hz
    exact v_zret (pc := 57) K hQ (q_zn hz25) dX5_readValue_57
def fX5_readValue (M : QM) : Option (Int32 × QM) := (q_b (fX5_wordFrom M (18 : Int32) (28 : Int32)) fun r2 M3 => if (0 : Int32) ≤ r2 then (fX5_readValue_b35 M3 r2) else (q_b (fX9_kindAt M3 (q_i M3 2 2)) fun r5 M6 => if r5 = (30 : Int32) then (fX5_readValue_b35 M6 r2) else (q_b (fX5_fail M6 (0 : Int32)) fun r8 M9 => if q_z r8 then some (r8, M9) else none)))
set_option maxRecDepth 100000 in
set_option maxHeartbeats 4000000 in
theorem bX5_readValue_0 {x : Cx} {y : Ly} (l : Launch) (K : VK x l rmX5_readValue y 3 cX5_readValue RX5 wqX5_readValue) (hy : y.2.2.2.2 = 0) {z : Int32 × QM} (hQ : VQ x y (some (.int z.1)) z.2 (some .boolean)) {M : QM} (hF : fX5_readValue M  = some z) : V x y 3 M 0 [(0, .ref (ly_o y 2))] [] := by
  unfold fX5_readValue at hF
  refine v_aload_n (pc := 0) K dX5_readValue_0 0 rfl ?_
  refine v_bipush (pc := 1) (v := 18) K dX5_readValue_1 rfl ?_
  refine v_bipush (pc := 3) (v := 28) K dX5_readValue_3 rfl ?_
  obtain ⟨r2, M3, hc1, hF⟩ := q_bE hF
  refine v_callV (pc := 5) (ci := 5) (As := [.int (18 : Int32), .int (28 : Int32)]) (rest := []) (st' := [.int r2]) (r := some (.int r2)) (M1 := M3) K (kX5_wordFrom l K.2.2.2.2.2.2.1 hy hc1) (jg_V jl_X5_64 jw_i_X5_wordFrom jw_s_X5_wordFrom jw_n_X5 jw_c_X5_wordFrom) rfl rfl rfl jd_X5_wordFrom ⟨Nat.le_of_ble_eq_true rfl, Nat.le_of_ble_eq_true rfl⟩ rfl rfl (Nat.le_of_ble_eq_true rfl) (by decide) (okc_0 hy (by decide)) rfl dX5_readValue_5 rfl ?_
  refine v_istore_n (pc := 8) (lv' := [(1, .int r2), (0, .ref (ly_o y 2))]) K dX5_readValue_8 1 rfl (by decide) rfl ?_
  refine v_iload_n (pc := 9) K dX5_readValue_9 0 rfl ?_
  refine v_if_ge (pc := 10) (tgt := 35) K dX5_readValue_10 (by decide) hF (fun c12 hF => ?_) (fun c12 hF => ?_)
  · refine v_sub [1, 0] rfl ?_
    exact bX5_readValue_35 l K hy hQ hF
  · refine v_aload_n (pc := 13) K dX5_readValue_13 1 rfl ?_
    refine gX5_tokens (pc := 14) K hy (by decide) jn_X5 (List.mem_cons_of_mem _ jl_X5_12) dX5_readValue_14 ?_
    refine v_aload_n (pc := 17) K dX5_readValue_17 1 rfl ?_
    refine gX5_at (pc := 18) K hy (by decide) jn_X5 (List.mem_cons_of_mem _ jl_X5_32) dX5_readValue_18 ?_
    obtain ⟨r5, M6, hc4, hF⟩ := q_bE hF
    refine v_callV (pc := 21) (ci := 8) (As := [.int (q_i M3 2 2)]) (rest := []) (st' := [.int r5]) (r := some (.int r5)) (M1 := M6) K (kX9_kindAt l K.2.2.2.2.2.2.1 hy hc4) (jg_V jl_X5_54 jw_i_X9_kindAt jw_s_X9_kindAt jw_n_X9 jw_c_X9_kindAt) rfl rfl rfl jd_X9_kindAt ⟨Nat.le_of_ble_eq_true rfl, Nat.le_of_ble_eq_true rfl⟩ rfl rfl (Nat.le_of_ble_eq_true rfl) (by decide) (okc_0 hy (by decide)) rfl dX5_readValue_21 rfl ?_
    refine v_bipush (pc := 24) (v := 30) K dX5_readValue_24 rfl ?_
    refine v_icmp_eq (pc := 26) (tgt := 35) K dX5_readValue_26 (by decide) hF (fun c11 hF => ?_) (fun c11 hF => ?_)
    · refine v_sub [1, 0] rfl ?_
      exact bX5_readValue_35 l K hy hQ hF
    · refine v_aload_n (pc := 29) K dX5_readValue_29 1 rfl ?_
      refine v_iconst (pc := 30) (v := 0) K dX5_readValue_30 rfl ?_
      obtain ⟨r8, M9, hc7, hF⟩ := q_bE hF
      refine v_callV (pc := 31) (ci := 5) (As := [.int (0 : Int32)]) (rest := []) (st' := [.int r8]) (r := some (.int r8)) (M1 := M9) K (kX5_fail l K.2.2.2.2.2.2.1 hy hc7) (jg_V jl_X5_61 jw_i_X5_fail jw_s_X5_fail jw_n_X5 jw_c_X5_fail) rfl rfl rfl jd_X5_fail ⟨Nat.le_of_ble_eq_true rfl, Nat.le_of_ble_eq_true rfl⟩ rfl rfl (Nat.le_of_ble_eq_true rfl) (by decide) (okc_0 hy (by decide)) rfl dX5_readValue_31 rfl ?_
      obtain ⟨hz10, hF⟩ := q_kE hF
      have hz := (Option.some.inj hF).symm
      subst hz
      exact v_zret (pc := 34) K hQ (q_zn hz10) dX5_readValue_34
set_option maxRecDepth 100000 in
set_option maxHeartbeats 4000000 in
theorem kX5_readValue (l : Launch) {y : Ly} (hJ : ly_J y) (hy : y.2.2.2.2 = 0) {M M1 : QM} {r : Int32} (hF : fX5_readValue M  = some (r, M1)) : Met l yX5_readValue wqX5_readValue rmX5_readValue (q_P y [.ref (ly_o y 2)] M) (q_E y (some (.int r)) M1) 0 0 (ly_A y) :=
  q_met (by decide) rfl hJ rfl rfl rfl (fun x K hQ => bX5_readValue_0 l K hy (z := (r, M1)) hQ  hF)
-- ===== X5_readSum ()Z
theorem jd_X5_readSum : yX5_readSum.cls = RX5 ∧ yX5_readSum.cls ≠ "java/lang/invoke/MethodHandle" ∧ yX5_readSum.cls ≠ "java/lang/invoke/VarHandle" ∧ (parseMethodDescriptor yX5_readSum.desc).map (fun d => d.parameters.length) = some 0 := by decide +kernel
abbrev wqX5_readSum : List Cond := .code yX5_readSum cX5_readSum 3 (some .boolean) :: wsL_law
abbrev rmX5_readSum : Room := { frames := 4, cells := 0, slots := 0, locals := 84 }
def fX5_readSum_b68 (k11 : QM → Int32 → Option (Int32 × QM)) (M : QM) (x1 : Int32) (s0 : Int32) (so1 : Nat) : Option (Int32 × QM) := (q_bv (fX2_addStep M so1 s0) fun M22 => (k11 M22 (x1 + (1 : Int32))))
set_option maxRecDepth 100000 in
set_option maxHeartbeats 4000000 in
theorem bX5_readSum_68 {x : Cx} {y : Ly} (l : Launch) (K : VK x l rmX5_readSum y 3 cX5_readSum RX5 wqX5_readSum) (hy : y.2.2.2.2 = 0) {z : Int32 × QM} (hQ : VQ x y (some (.int z.1)) z.2 (some .boolean)) {k11 : QM → Int32 → Option (Int32 × QM)} (hk11 : ∀ {M : QM} {x1 : Int32}, k11 M x1 = some z → V x y 3 M 11 [(0, .ref (ly_o y 2)), (1, .int x1)] []) {M : QM} {x1 : Int32} {s0 : Int32} {so1 : Nat} (hso1 : kls so1 = 2) (hF : fX5_readSum_b68 k11 M x1 s0 so1 = some z) : V x y 3 M 68 [(0, .ref (ly_o y 2)), (1, .int x1)] [.int s0, .ref (ly_o y so1)] := by
  unfold fX5_readSum_b68 at hF
  obtain ⟨M22, hc20, hF⟩ := q_bvE hF
  refine v_callV (pc := 68) (ci := 2) (As := [.int s0]) (rest := []) (st' := []) (r := none) (M1 := M22) K (kX2_addStep l K.2.2.2.2.2.2.1 hy hso1 hc20) (jg_V jl_X5_99 jw_i_X2_addStep jw_s_X2_addStep jw_n_X2 jw_c_X2_addStep) rfl rfl rfl jd_X2_addStep ⟨Nat.le_of_ble_eq_true rfl, Nat.le_of_ble_eq_true rfl⟩ rfl rfl (Nat.le_of_ble_eq_true rfl) hso1 (okc_0 hy (by decide)) rfl dX5_readSum_68 rfl ?_
  refine v_iinc (pc := 71) (v1 := x1 + (1 : Int32)) (lv' := [(1, .int (x1 + (1 : Int32))), (0, .ref (ly_o y 2))]) K dX5_readSum_71 1 rfl rfl (by decide) rfl ?_
  refine v_goto (pc := 74) (tgt := 11) K dX5_readSum_74 (by decide) ?_
  refine v_sub [1, 0] rfl ?_
  exact hk11 hF
def fX5_readSum_b42 (k11 : QM → Int32 → Option (Int32 × QM)) (M : QM) (x1 : Int32) (x2 : Int32) : Option (Int32 × QM) := (q_b (fX5_readValue M) fun r15 M16 => if r15 ≠ (0 : Int32) then if x2 = (0 : Int32) then (fX5_readSum_b68 k11 M16 x1 (20001 : Int32) (q_r M16 2 1)) else (fX5_readSum_b68 k11 M16 x1 (20000 : Int32) (q_r M16 2 1)) else some ((0 : Int32), M16))
set_option maxRecDepth 100000 in
set_option maxHeartbeats 4000000 in
theorem bX5_readSum_42 {x : Cx} {y : Ly} (l : Launch) (K : VK x l rmX5_readSum y 3 cX5_readSum RX5 wqX5_readSum) (hy : y.2.2.2.2 = 0) {z : Int32 × QM} (hQ : VQ x y (some (.int z.1)) z.2 (some .boolean)) {k11 : QM → Int32 → Option (Int32 × QM)} (hk11 : ∀ {M : QM} {x1 : Int32}, k11 M x1 = some z → V x y 3 M 11 [(0, .ref (ly_o y 2)), (1, .int x1)] []) {M : QM} {x1 : Int32} {x2 : Int32} (hF : fX5_readSum_b42 k11 M x1 x2 = some z) : V x y 3 M 42 [(0, .ref (ly_o y 2)), (1, .int x1), (2, .int x2)] [] := by
  unfold fX5_readSum_b42 at hF
  refine v_aload_n (pc := 42) K dX5_readSum_42 0 rfl ?_
  obtain ⟨r15, M16, hc14, hF⟩ := q_bE hF
  refine v_callV (pc := 43) (ci := 5) (As := []) (rest := []) (st' := [.int r15]) (r := some (.int r15)) (M1 := M16) K (kX5_readValue l K.2.2.2.2.2.2.1 hy hc14) (jg_V jl_X5_115 jw_i_X5_readValue jw_s_X5_readValue jw_n_X5 jw_c_X5_readValue) rfl rfl rfl jd_X5_readValue ⟨Nat.le_of_ble_eq_true rfl, Nat.le_of_ble_eq_true rfl⟩ rfl rfl (Nat.le_of_ble_eq_true rfl) (by decide) (okc_0 hy (by decide)) rfl dX5_readSum_43 rfl ?_
  refine v_if_ne (pc := 46) (tgt := 51) K dX5_readSum_46 (by decide) hF (fun c19 hF => ?_) (fun c19 hF => ?_)
  · refine v_aload_n (pc := 51) K dX5_readSum_51 0 rfl ?_
    refine gX5_code (pc := 52) K hy (by decide) jn_X5 (List.mem_cons_of_mem _ jl_X5_21) dX5_readSum_52 ?_
    refine v_known (o := 2) (c := 5) (j := 1) (by decide) (okc_0 hy (by decide)) (by decide) rfl (fun hr17 => ?_)
    refine v_iload_n (pc := 55) K dX5_readSum_55 2 rfl ?_
    refine v_if_eq (pc := 56) (tgt := 65) K dX5_readSum_56 (by decide) hF (fun c18 hF => ?_) (fun c18 hF => ?_)
    · refine v_sipush (pc := 65) (v := 20001) K dX5_readSum_65 rfl ?_
      refine v_sub [0, 1] rfl ?_
      exact bX5_readSum_68 l K hy hQ hk11 hr17 hF
    · refine v_sipush (pc := 59) (v := 20000) K dX5_readSum_59 rfl ?_
      refine v_goto (pc := 62) (tgt := 68) K dX5_readSum_62 (by decide) ?_
      refine v_sub [0, 1] rfl ?_
      exact bX5_readSum_68 l K hy hQ hk11 hr17 hF
  · refine v_iconst (pc := 49) (v := 0) K dX5_readSum_49 rfl ?_
    have hz := (Option.some.inj hF).symm
    subst hz
    exact v_zret (pc := 50) K hQ rfl dX5_readSum_50
def fX5_readSum_b11 : Nat → QM → Int32 → Option (Int32 × QM)
  | 0, _, _ => none
  | q + 1, M, x1 => if (400 : Int32) ≤ x1 then some ((1 : Int32), M) else (q_b (fX5_takes M (299 : Int32)) fun r6 M7 => if r6 ≠ (0 : Int32) then (fX5_readSum_b42 (fun M x1 => fX5_readSum_b11 q M x1) M7 x1 r6) else (q_b (fX5_takes M7 (301 : Int32)) fun r9 M10 => if r9 ≠ (0 : Int32) then (fX5_readSum_b42 (fun M x1 => fX5_readSum_b11 q M x1) M10 x1 r6) else some ((1 : Int32), M10)))
set_option maxRecDepth 100000 in
set_option maxHeartbeats 4000000 in
theorem bX5_readSum_11 {x : Cx} {y : Ly} (l : Launch) (K : VK x l rmX5_readSum y 3 cX5_readSum RX5 wqX5_readSum) (hy : y.2.2.2.2 = 0) {z : Int32 × QM} (hQ : VQ x y (some (.int z.1)) z.2 (some .boolean)) : ∀ (q : Nat) {M : QM} {x1 : Int32},  fX5_readSum_b11 q M x1 = some z → V x y 3 M 11 [(0, .ref (ly_o y 2)), (1, .int x1)] [] := by
  intro q
  induction q with
  | zero =>
    intro M x1  hF
    rw [fX5_readSum_b11] at hF
    cases hF
  | succ q ih =>
    intro M x1  hF
    rw [fX5_readSum_b11] at hF
    refine v_iload_n (pc := 11) K dX5_readSum_11 1 rfl ?_
    refine v_sipush (pc := 12) (v := 400) K dX5_readSum_12 rfl ?_
    refine v_icmp_ge (pc := 15) (tgt := 77) K dX5_readSum_15 (by decide) hF (fun c13 hF => ?_) (fun c13 hF => ?_)
    · refine v_iconst (pc := 77) (v := 1) K dX5_readSum_77 rfl ?_
      have hz := (Option.some.inj hF).symm
      subst hz
      exact v_zret (pc := 78) K hQ rfl dX5_readSum_78
    · refine v_aload_n (pc := 18) K dX5_readSum_18 0 rfl ?_
      refine v_sipush (pc := 19) (v := 299) K dX5_readSum_19 rfl ?_
      obtain ⟨r6, M7, hc5, hF⟩ := q_bE hF
      refine v_callV (pc := 22) (ci := 5) (As := [.int (299 : Int32)]) (rest := []) (st' := [.int r6]) (r := some (.int r6)) (M1 := M7) K (kX5_takes l K.2.2.2.2.2.2.1 hy hc5) (jg_V jl_X5_58 jw_i_X5_takes jw_s_X5_takes jw_n_X5 jw_c_X5_takes) rfl rfl rfl jd_X5_takes ⟨Nat.le_of_ble_eq_true rfl, Nat.le_of_ble_eq_true rfl⟩ rfl rfl (Nat.le_of_ble_eq_true rfl) (by decide) (okc_0 hy (by decide)) rfl dX5_readSum_22 rfl ?_
      refine v_istore_n (pc := 25) (lv' := [(2, .int r6), (0, .ref (ly_o y 2)), (1, .int x1)]) K dX5_readSum_25 2 rfl (by decide) rfl ?_
      refine v_iload_n (pc := 26) K dX5_readSum_26 0 rfl ?_
      refine v_if_ne (pc := 27) (tgt := 42) K dX5_readSum_27 (by decide) hF (fun c12 hF => ?_) (fun c12 hF => ?_)
      · refine v_sub [1, 2, 0] rfl ?_
        exact bX5_readSum_42 l K hy hQ ih hF
      · refine v_aload_n (pc := 30) K dX5_readSum_30 1 rfl ?_
        refine v_sipush (pc := 31) (v := 301) K dX5_readSum_31 rfl ?_
        obtain ⟨r9, M10, hc8, hF⟩ := q_bE hF
        refine v_callV (pc := 34) (ci := 5) (As := [.int (301 : Int32)]) (rest := []) (st' := [.int r9]) (r := some (.int r9)) (M1 := M10) K (kX5_takes l K.2.2.2.2.2.2.1 hy hc8) (jg_V jl_X5_58 jw_i_X5_takes jw_s_X5_takes jw_n_X5 jw_c_X5_takes) rfl rfl rfl jd_X5_takes ⟨Nat.le_of_ble_eq_true rfl, Nat.le_of_ble_eq_true rfl⟩ rfl rfl (Nat.le_of_ble_eq_true rfl) (by decide) (okc_0 hy (by decide)) rfl dX5_readSum_34 rfl ?_
        refine v_if_ne (pc := 37) (tgt := 42) K dX5_readSum_37 (by decide) hF (fun c11 hF => ?_) (fun c11 hF => ?_)
        · refine v_sub [1, 2, 0] rfl ?_
          exact bX5_readSum_42 l K hy hQ ih hF
        · refine v_iconst (pc := 40) (v := 1) K dX5_readSum_40 rfl ?_
          have hz := (Option.some.inj hF).symm
          subst hz
          exact v_zret (pc := 41) K hQ rfl dX5_readSum_41
def fX5_readSum (M : QM) : Option (Int32 × QM) := (q_b (fX5_readValue M) fun r2 M3 => if r2 ≠ (0 : Int32) then (fX5_readSum_b11 q_F M3 (0 : Int32)) else some ((0 : Int32), M3))
set_option maxRecDepth 100000 in
set_option maxHeartbeats 4000000 in
theorem bX5_readSum_0 {x : Cx} {y : Ly} (l : Launch) (K : VK x l rmX5_readSum y 3 cX5_readSum RX5 wqX5_readSum) (hy : y.2.2.2.2 = 0) {z : Int32 × QM} (hQ : VQ x y (some (.int z.1)) z.2 (some .boolean)) {M : QM} (hF : fX5_readSum M  = some z) : V x y 3 M 0 [(0, .ref (ly_o y 2))] [] := by
  unfold fX5_readSum at hF
  refine v_aload_n (pc := 0) K dX5_readSum_0 0 rfl ?_
  obtain ⟨r2, M3, hc1, hF⟩ := q_bE hF
  refine v_callV (pc := 1) (ci := 5) (As := []) (rest := []) (st' := [.int r2]) (r := some (.int r2)) (M1 := M3) K (kX5_readValue l K.2.2.2.2.2.2.1 hy hc1) (jg_V jl_X5_115 jw_i_X5_readValue jw_s_X5_readValue jw_n_X5 jw_c_X5_readValue) rfl rfl rfl jd_X5_readValue ⟨Nat.le_of_ble_eq_true rfl, Nat.le_of_ble_eq_true rfl⟩ rfl rfl (Nat.le_of_ble_eq_true rfl) (by decide) (okc_0 hy (by decide)) rfl dX5_readSum_1 rfl ?_
  refine v_if_ne (pc := 4) (tgt := 9) K dX5_readSum_4 (by decide) hF (fun c4 hF => ?_) (fun c4 hF => ?_)
  · refine v_iconst (pc := 9) (v := 0) K dX5_readSum_9 rfl ?_
    refine v_istore_n (pc := 10) (lv' := [(1, .int (0 : Int32)), (0, .ref (ly_o y 2))]) K dX5_readSum_10 1 rfl (by decide) rfl ?_
    refine v_sub [1, 0] rfl ?_
    exact bX5_readSum_11 l K hy hQ q_F hF
  · refine v_iconst (pc := 7) (v := 0) K dX5_readSum_7 rfl ?_
    have hz := (Option.some.inj hF).symm
    subst hz
    exact v_zret (pc := 8) K hQ rfl dX5_readSum_8
set_option maxRecDepth 100000 in
set_option maxHeartbeats 4000000 in
theorem kX5_readSum (l : Launch) {y : Ly} (hJ : ly_J y) (hy : y.2.2.2.2 = 0) {M M1 : QM} {r : Int32} (hF : fX5_readSum M  = some (r, M1)) : Met l yX5_readSum wqX5_readSum rmX5_readSum (q_P y [.ref (ly_o y 2)] M) (q_E y (some (.int r)) M1) 0 0 (ly_A y) :=
  q_met (by decide) rfl hJ rfl rfl rfl (fun x K hQ => bX5_readSum_0 l K hy (z := (r, M1)) hQ  hF)
-- ===== X5_comparisonOf (I)I
theorem jd_X5_comparisonOf : yX5_comparisonOf.cls ≠ "java/lang/invoke/MethodHandle" ∧ yX5_comparisonOf.cls ≠ "java/lang/invoke/VarHandle" ∧ (parseMethodDescriptor yX5_comparisonOf.desc).map (fun d => d.parameters.length) = some 1 := by decide +kernel
abbrev wqX5_comparisonOf : List Cond := .code yX5_comparisonOf cX5_comparisonOf 1 (some .int) :: wsL_law
abbrev rmX5_comparisonOf : Room := { frames := 0, cells := 0, slots := 0, locals := 0 }
def fX5_comparisonOf (M : QM) (x0 : Int32) : Option (Int32 × QM) := if x0 = (316 : Int32) then some ((20002 : Int32), M) else if x0 = (317 : Int32) then some ((20004 : Int32), M) else if x0 = (318 : Int32) then some ((20006 : Int32), M) else if x0 = (572 : Int32) then some ((20003 : Int32), M) else if x0 = (574 : Int32) then some ((20005 : Int32), M) else some ((-1 : Int32), M)
set_option maxRecDepth 100000 in
set_option maxHeartbeats 4000000 in
theorem bX5_comparisonOf_0 {x : Cx} {y : Ly} (l : Launch) (K : VK x l rmX5_comparisonOf y 1 cX5_comparisonOf RX5 wqX5_comparisonOf) (hy : y.2.2.2.2 = 0) {z : Int32 × QM} (hQ : VQ x y (some (.int z.1)) z.2 (some .int)) {M : QM} {x0 : Int32} (hF : fX5_comparisonOf M x0 = some z) : V x y 1 M 0 [(0, .int x0)] [] := by
  unfold fX5_comparisonOf at hF
  refine v_iload_n (pc := 0) K dX5_comparisonOf_0 0 rfl ?_
  rcases q_iE hF with ⟨c1, hF⟩ | ⟨c1, hF⟩
  · refine v_lookE (pc := 1) (tgt := 52) K c1 dX5_comparisonOf_1 (by decide +kernel) (off := 51) (by decide +kernel) (by decide) ?_
    refine v_sipush (pc := 52) (v := 20002) K dX5_comparisonOf_52 rfl ?_
    have hz := (Option.some.inj hF).symm
    subst hz
    exact v_iret (pc := 55) K hQ dX5_comparisonOf_55
  rcases q_iE hF with ⟨c2, hF⟩ | ⟨c2, hF⟩
  · refine v_lookE (pc := 1) (tgt := 60) K c2 dX5_comparisonOf_1 (by decide +kernel) (off := 59) (by decide +kernel) (by decide) ?_
    refine v_sipush (pc := 60) (v := 20004) K dX5_comparisonOf_60 rfl ?_
    have hz := (Option.some.inj hF).symm
    subst hz
    exact v_iret (pc := 63) K hQ dX5_comparisonOf_63
  rcases q_iE hF with ⟨c3, hF⟩ | ⟨c3, hF⟩
  · refine v_lookE (pc := 1) (tgt := 68) K c3 dX5_comparisonOf_1 (by decide +kernel) (off := 67) (by decide +kernel) (by decide) ?_
    refine v_sipush (pc := 68) (v := 20006) K dX5_comparisonOf_68 rfl ?_
    have hz := (Option.some.inj hF).symm
    subst hz
    exact v_iret (pc := 71) K hQ dX5_comparisonOf_71
  rcases q_iE hF with ⟨c4, hF⟩ | ⟨c4, hF⟩
  · refine v_lookE (pc := 1) (tgt := 56) K c4 dX5_comparisonOf_1 (by decide +kernel) (off := 55) (by decide +kernel) (by decide) ?_
    refine v_sipush (pc := 56) (v := 20003) K dX5_comparisonOf_56 rfl ?_
    have hz := (Option.some.inj hF).symm
    subst hz
    exact v_iret (pc := 59) K hQ dX5_comparisonOf_59
  rcases q_iE hF with ⟨c5, hF⟩ | ⟨c5, hF⟩
  · refine v_lookE (pc := 1) (tgt := 64) K c5 dX5_comparisonOf_1 (by decide +kernel) (off := 63) (by decide +kernel) (by decide) ?_
    refine v_sipush (pc := 64) (v := 20005) K dX5_comparisonOf_64 rfl ?_
    have hz := (Option.some.inj hF).symm
    subst hz
    exact v_iret (pc := 67) K hQ dX5_comparisonOf_67
  refine v_look (pc := 1) (tgt := 72) K dX5_comparisonOf_1 (by decide +kernel) (off := 71) (q_lk (q_nk c1 (by decide)) (q_lk (q_nk c2 (by decide)) (q_lk (q_nk c3 (by decide)) (q_lk (q_nk c4 (by decide)) (q_lk (q_nk c5 (by decide)) rfl))))) (by decide) ?_
  refine v_iconst (pc := 72) (v := -1) K dX5_comparisonOf_72 rfl ?_
  have hz := (Option.some.inj hF).symm
  subst hz
  exact v_iret (pc := 73) K hQ dX5_comparisonOf_73
set_option maxRecDepth 100000 in
set_option maxHeartbeats 4000000 in
theorem kX5_comparisonOf (l : Launch) {y : Ly} (hJ : ly_J y) (hy : y.2.2.2.2 = 0) {M M1 : QM} {r : Int32} {x0 : Int32} (hF : fX5_comparisonOf M x0 = some (r, M1)) : Met l yX5_comparisonOf wqX5_comparisonOf rmX5_comparisonOf (q_P y [.int x0] M) (q_E y (some (.int r)) M1) 0 0 (ly_A y) :=
  q_met (by decide) rfl hJ rfl rfl rfl (fun x K hQ => bX5_comparisonOf_0 l K hy (z := (r, M1)) hQ  hF)
-- ===== X5_readPart (I)Z
def fX5_readPart_b12 (rc : QM → Int32 → Option (Int32 × QM)) : Nat → QM → Int32 → Int32 → Option (Int32 × QM)
  | 0, _, _, _ => none
  | q + 1, M, x1, x2 => if (400 : Int32) ≤ x2 then some ((1 : Int32), M) else (q_b (fX5_takes M (16 : Int32)) fun r6 M7 => if r6 = (0 : Int32) then some ((1 : Int32), M7) else (q_b (rc M7 x1) fun r9 M10 => if r9 ≠ (0 : Int32) then (q_bv (fX2_addStep M10 (q_r M10 2 1) (20008 : Int32)) fun M14 => (fX5_readPart_b12 rc q M14 x1 (x2 + (1 : Int32)))) else some ((0 : Int32), M10)))
set_option maxRecDepth 100000 in
set_option maxHeartbeats 4000000 in
theorem bX5_readPart_12 {x : Cx} {y : Ly} (l : Launch) (d : Nat) {rc : QM → Int32 → Option (Int32 × QM)} (hrc : ∀ {M M1 : QM} {x1 : Int32} {r : Int32}, rc M x1 = some (r, M1) → Met l yX5_readFact wqX5_readFact (rmX5_readFact d) (q_P y [.ref (ly_o y 2), .int x1] M) (q_E y (some (.int r)) M1) 0 0 (ly_A y)) (K : VK x l (rmX5_readPart d) y 3 cX5_readPart RX5 wqX5_readPart) (hy : y.2.2.2.2 = 0) {z : Int32 × QM} (hQ : VQ x y (some (.int z.1)) z.2 (some .boolean)) : ∀ (q : Nat) {M : QM} {x1 : Int32} {x2 : Int32},  fX5_readPart_b12 rc q M x1 x2 = some z → V x y 3 M 12 [(0, .ref (ly_o y 2)), (1, .int x1), (2, .int x2)] [] := by
  intro q
  induction q with
  | zero =>
    intro M x1 x2  hF
    rw [fX5_readPart_b12] at hF
    cases hF
  | succ q ih =>
    intro M x1 x2  hF
    rw [fX5_readPart_b12] at hF
    refine v_iload_n (pc := 12) K dX5_readPart_12 2 rfl ?_
    refine v_sipush (pc := 13) (v := 400) K dX5_readPart_13 rfl ?_
    refine v_icmp_ge (pc := 16) (tgt := 54) K dX5_readPart_16 (by decide) hF (fun c17 hF => ?_) (fun c17 hF => ?_)
    · refine v_iconst (pc := 54) (v := 1) K dX5_readPart_54 rfl ?_
      have hz := (Option.some.inj hF).symm
      subst hz
      exact v_zret (pc := 55) K hQ rfl dX5_readPart_55
    · refine v_aload_n (pc := 19) K dX5_readPart_19 0 rfl ?_
      refine v_bipush (pc := 20) (v := 16) K dX5_readPart_20 rfl ?_
      obtain ⟨r6, M7, hc5, hF⟩ := q_bE hF
      refine v_callV (pc := 22) (ci := 5) (As := [.int (16 : Int32)]) (rest := []) (st' := [.int r6]) (r := some (.int r6)) (M1 := M7) K (kX5_takes l K.2.2.2.2.2.2.1 hy hc5) (jg_V jl_X5_58 jw_i_X5_takes jw_s_X5_takes jw_n_X5 jw_c_X5_takes) rfl rfl rfl jd_X5_takes ⟨by simp only [rmX5_takes, rmX5_readPart]; omega, by simp only [rmX5_takes, rmX5_readPart]; omega⟩ rfl rfl (Nat.le_of_ble_eq_true rfl) (by decide) (okc_0 hy (by decide)) rfl dX5_readPart_22 rfl ?_
      refine v_if_eq (pc := 25) (tgt := 54) K dX5_readPart_25 (by decide) hF (fun c16 hF => ?_) (fun c16 hF => ?_)
      · refine v_iconst (pc := 54) (v := 1) K dX5_readPart_54 rfl ?_
        have hz := (Option.some.inj hF).symm
        subst hz
        exact v_zret (pc := 55) K hQ rfl dX5_readPart_55
      · refine v_aload_n (pc := 28) K dX5_readPart_28 0 rfl ?_
        refine v_iload_n (pc := 29) K dX5_readPart_29 1 rfl ?_
        obtain ⟨r9, M10, hc8, hF⟩ := q_bE hF
        refine v_callV (pc := 30) (ci := 5) (As := [.int x1]) (rest := []) (st' := [.int r9]) (r := some (.int r9)) (M1 := M10) K (hrc hc8) (jg_V jl_X5_103 jw_i_X5_readFact jw_s_X5_readFact jw_n_X5 jw_c_X5_readFact) rfl rfl rfl jd_X5_readFact ⟨by simp only [rmX5_readFact, rmX5_readPart]; omega, by simp only [rmX5_readFact, rmX5_readPart]; omega⟩ rfl rfl (Nat.le_of_ble_eq_true rfl) (by decide) (okc_0 hy (by decide)) rfl dX5_readPart_30 rfl ?_
        refine v_if_ne (pc := 33) (tgt := 38) K dX5_readPart_33 (by decide) hF (fun c15 hF => ?_) (fun c15 hF => ?_)
        · refine v_aload_n (pc := 38) K dX5_readPart_38 0 rfl ?_
          refine gX5_code (pc := 39) K hy (by decide) jn_X5 (List.mem_cons_of_mem _ jl_X5_21) dX5_readPart_39 ?_
          refine v_known (o := 2) (c := 5) (j := 1) (by decide) (okc_0 hy (by decide)) (by decide) rfl (fun hr11 => ?_)
          refine v_sipush (pc := 42) (v := 20008) K dX5_readPart_42 rfl ?_
          obtain ⟨M14, hc12, hF⟩ := q_bvE hF
          refine v_callV (pc := 45) (ci := 2) (As := [.int (20008 : Int32)]) (rest := []) (st' := []) (r := none) (M1 := M14) K (kX2_addStep l K.2.2.2.2.2.2.1 hy hr11 hc12) (jg_V jl_X5_99 jw_i_X2_addStep jw_s_X2_addStep jw_n_X2 jw_c_X2_addStep) rfl rfl rfl jd_X2_addStep ⟨by simp only [rmX2_addStep, rmX5_readPart]; omega, by simp only [rmX2_addStep, rmX5_readPart]; omega⟩ rfl rfl (Nat.le_of_ble_eq_true rfl) hr11 (okc_0 hy (by decide)) rfl dX5_readPart_45 rfl ?_
          refine v_iinc (pc := 48) (v1 := x2 + (1 : Int32)) (lv' := [(2, .int (x2 + (1 : Int32))), (0, .ref (ly_o y 2)), (1, .int x1)]) K dX5_readPart_48 2 rfl rfl (by decide) rfl ?_
          refine v_goto (pc := 51) (tgt := 12) K dX5_readPart_51 (by decide) ?_
          refine v_sub [1, 2, 0] rfl ?_
          exact ih hF
        · refine v_iconst (pc := 36) (v := 0) K dX5_readPart_36 rfl ?_
          have hz := (Option.some.inj hF).symm
          subst hz
          exact v_zret (pc := 37) K hQ rfl dX5_readPart_37
def fX5_readPart (rc : QM → Int32 → Option (Int32 × QM)) (M : QM) (x1 : Int32) : Option (Int32 × QM) := (q_b (rc M x1) fun r2 M3 => if r2 ≠ (0 : Int32) then (fX5_readPart_b12 rc q_F M3 x1 (0 : Int32)) else some ((0 : Int32), M3))
set_option maxRecDepth 100000 in
set_option maxHeartbeats 4000000 in
theorem bX5_readPart_0 {x : Cx} {y : Ly} (l : Launch) (d : Nat) {rc : QM → Int32 → Option (Int32 × QM)} (hrc : ∀ {M M1 : QM} {x1 : Int32} {r : Int32}, rc M x1 = some (r, M1) → Met l yX5_readFact wqX5_readFact (rmX5_readFact d) (q_P y [.ref (ly_o y 2), .int x1] M) (q_E y (some (.int r)) M1) 0 0 (ly_A y)) (K : VK x l (rmX5_readPart d) y 3 cX5_readPart RX5 wqX5_readPart) (hy : y.2.2.2.2 = 0) {z : Int32 × QM} (hQ : VQ x y (some (.int z.1)) z.2 (some .boolean)) {M : QM} {x1 : Int32} (hF : fX5_readPart rc M x1 = some z) : V x y 3 M 0 [(0, .ref (ly_o y 2)), (1, .int x1)] [] := by
  unfold fX5_readPart at hF
  refine v_aload_n (pc := 0) K dX5_readPart_0 0 rfl ?_
  refine v_iload_n (pc := 1) K dX5_readPart_1 1 rfl ?_
  obtain ⟨r2, M3, hc1, hF⟩ := q_bE hF
  refine v_callV (pc := 2) (ci := 5) (As := [.int x1]) (rest := []) (st' := [.int r2]) (r := some (.int r2)) (M1 := M3) K (hrc hc1) (jg_V jl_X5_103 jw_i_X5_readFact jw_s_X5_readFact jw_n_X5 jw_c_X5_readFact) rfl rfl rfl jd_X5_readFact ⟨by simp only [rmX5_readFact, rmX5_readPart]; omega, by simp only [rmX5_readFact, rmX5_readPart]; omega⟩ rfl rfl (Nat.le_of_ble_eq_true rfl) (by decide) (okc_0 hy (by decide)) rfl dX5_readPart_2 rfl ?_
  refine v_if_ne (pc := 5) (tgt := 10) K dX5_readPart_5 (by decide) hF (fun c4 hF => ?_) (fun c4 hF => ?_)
  · refine v_iconst (pc := 10) (v := 0) K dX5_readPart_10 rfl ?_
    refine v_istore_n (pc := 11) (lv' := [(2, .int (0 : Int32)), (0, .ref (ly_o y 2)), (1, .int x1)]) K dX5_readPart_11 2 rfl (by decide) rfl ?_
    refine v_sub [1, 2, 0] rfl ?_
    exact bX5_readPart_12 l d hrc K hy hQ q_F hF
  · refine v_iconst (pc := 8) (v := 0) K dX5_readPart_8 rfl ?_
    have hz := (Option.some.inj hF).symm
    subst hz
    exact v_zret (pc := 9) K hQ rfl dX5_readPart_9
set_option maxRecDepth 100000 in
set_option maxHeartbeats 4000000 in
theorem kX5_readPart {l : Launch} {y : Ly} (d : Nat) {rc : QM → Int32 → Option (Int32 × QM)} (hrc : ∀ {M M1 : QM} {x1 : Int32} {r : Int32}, rc M x1 = some (r, M1) → Met l yX5_readFact wqX5_readFact (rmX5_readFact d) (q_P y [.ref (ly_o y 2), .int x1] M) (q_E y (some (.int r)) M1) 0 0 (ly_A y)) (l0 : Launch) (hJ : ly_J y) (hy : y.2.2.2.2 = 0) {M M1 : QM} {r : Int32} {x1 : Int32} (hF : fX5_readPart rc M x1 = some (r, M1)) : Met l yX5_readPart wqX5_readPart (rmX5_readPart d) (q_P y [.ref (ly_o y 2), .int x1] M) (q_E y (some (.int r)) M1) 0 0 (ly_A y) :=
  q_met (by decide) rfl hJ rfl rfl rfl (fun x K hQ => bX5_readPart_0 l d hrc K hy (z := (r, M1)) hQ  hF)
-- ===== X5_readTest (I)Z
def fX5_readTest_b12 (rc : QM → Int32 → Option (Int32 × QM)) : Nat → QM → Int32 → Int32 → Option (Int32 × QM)
  | 0, _, _, _ => none
  | q + 1, M, x1, x2 => if (400 : Int32) ≤ x2 then some ((1 : Int32), M) else (q_b (fX5_takes M (15 : Int32)) fun r6 M7 => if r6 = (0 : Int32) then some ((1 : Int32), M7) else (q_b (fX5_readPart rc M7 x1) fun r9 M10 => if r9 ≠ (0 : Int32) then (q_bv (fX2_addStep M10 (q_r M10 2 1) (20009 : Int32)) fun M14 => (fX5_readTest_b12 rc q M14 x1 (x2 + (1 : Int32)))) else some ((0 : Int32), M10)))
set_option maxRecDepth 100000 in
set_option maxHeartbeats 4000000 in
theorem bX5_readTest_12 {x : Cx} {y : Ly} (l : Launch) (d : Nat) {rc : QM → Int32 → Option (Int32 × QM)} (hrc : ∀ {M M1 : QM} {x1 : Int32} {r : Int32}, rc M x1 = some (r, M1) → Met l yX5_readFact wqX5_readFact (rmX5_readFact d) (q_P y [.ref (ly_o y 2), .int x1] M) (q_E y (some (.int r)) M1) 0 0 (ly_A y)) (K : VK x l (rmX5_readTest d) y 3 cX5_readTest RX5 wqX5_readTest) (hy : y.2.2.2.2 = 0) {z : Int32 × QM} (hQ : VQ x y (some (.int z.1)) z.2 (some .boolean)) : ∀ (q : Nat) {M : QM} {x1 : Int32} {x2 : Int32},  fX5_readTest_b12 rc q M x1 x2 = some z → V x y 3 M 12 [(0, .ref (ly_o y 2)), (1, .int x1), (2, .int x2)] [] := by
  intro q
  induction q with
  | zero =>
    intro M x1 x2  hF
    rw [fX5_readTest_b12] at hF
    cases hF
  | succ q ih =>
    intro M x1 x2  hF
    rw [fX5_readTest_b12] at hF
    refine v_iload_n (pc := 12) K dX5_readTest_12 2 rfl ?_
    refine v_sipush (pc := 13) (v := 400) K dX5_readTest_13 rfl ?_
    refine v_icmp_ge (pc := 16) (tgt := 54) K dX5_readTest_16 (by decide) hF (fun c17 hF => ?_) (fun c17 hF => ?_)
    · refine v_iconst (pc := 54) (v := 1) K dX5_readTest_54 rfl ?_
      have hz := (Option.some.inj hF).symm
      subst hz
      exact v_zret (pc := 55) K hQ rfl dX5_readTest_55
    · refine v_aload_n (pc := 19) K dX5_readTest_19 0 rfl ?_
      refine v_bipush (pc := 20) (v := 15) K dX5_readTest_20 rfl ?_
      obtain ⟨r6, M7, hc5, hF⟩ := q_bE hF
      refine v_callV (pc := 22) (ci := 5) (As := [.int (15 : Int32)]) (rest := []) (st' := [.int r6]) (r := some (.int r6)) (M1 := M7) K (kX5_takes l K.2.2.2.2.2.2.1 hy hc5) (jg_V jl_X5_58 jw_i_X5_takes jw_s_X5_takes jw_n_X5 jw_c_X5_takes) rfl rfl rfl jd_X5_takes ⟨by simp only [rmX5_takes, rmX5_readTest]; omega, by simp only [rmX5_takes, rmX5_readTest]; omega⟩ rfl rfl (Nat.le_of_ble_eq_true rfl) (by decide) (okc_0 hy (by decide)) rfl dX5_readTest_22 rfl ?_
      refine v_if_eq (pc := 25) (tgt := 54) K dX5_readTest_25 (by decide) hF (fun c16 hF => ?_) (fun c16 hF => ?_)
      · refine v_iconst (pc := 54) (v := 1) K dX5_readTest_54 rfl ?_
        have hz := (Option.some.inj hF).symm
        subst hz
        exact v_zret (pc := 55) K hQ rfl dX5_readTest_55
      · refine v_aload_n (pc := 28) K dX5_readTest_28 0 rfl ?_
        refine v_iload_n (pc := 29) K dX5_readTest_29 1 rfl ?_
        obtain ⟨r9, M10, hc8, hF⟩ := q_bE hF
        refine v_callV (pc := 30) (ci := 5) (As := [.int x1]) (rest := []) (st' := [.int r9]) (r := some (.int r9)) (M1 := M10) K (kX5_readPart d hrc l K.2.2.2.2.2.2.1 hy hc8) (jg_V jl_X5_96 jw_i_X5_readPart jw_s_X5_readPart jw_n_X5 jw_c_X5_readPart) rfl rfl rfl jd_X5_readPart ⟨by simp only [rmX5_readPart, rmX5_readTest]; omega, by simp only [rmX5_readPart, rmX5_readTest]; omega⟩ rfl rfl (Nat.le_of_ble_eq_true rfl) (by decide) (okc_0 hy (by decide)) rfl dX5_readTest_30 rfl ?_
        refine v_if_ne (pc := 33) (tgt := 38) K dX5_readTest_33 (by decide) hF (fun c15 hF => ?_) (fun c15 hF => ?_)
        · refine v_aload_n (pc := 38) K dX5_readTest_38 0 rfl ?_
          refine gX5_code (pc := 39) K hy (by decide) jn_X5 (List.mem_cons_of_mem _ jl_X5_21) dX5_readTest_39 ?_
          refine v_known (o := 2) (c := 5) (j := 1) (by decide) (okc_0 hy (by decide)) (by decide) rfl (fun hr11 => ?_)
          refine v_sipush (pc := 42) (v := 20009) K dX5_readTest_42 rfl ?_
          obtain ⟨M14, hc12, hF⟩ := q_bvE hF
          refine v_callV (pc := 45) (ci := 2) (As := [.int (20009 : Int32)]) (rest := []) (st' := []) (r := none) (M1 := M14) K (kX2_addStep l K.2.2.2.2.2.2.1 hy hr11 hc12) (jg_V jl_X5_99 jw_i_X2_addStep jw_s_X2_addStep jw_n_X2 jw_c_X2_addStep) rfl rfl rfl jd_X2_addStep ⟨by simp only [rmX2_addStep, rmX5_readTest]; omega, by simp only [rmX2_addStep, rmX5_readTest]; omega⟩ rfl rfl (Nat.le_of_ble_eq_true rfl) hr11 (okc_0 hy (by decide)) rfl dX5_readTest_45 rfl ?_
          refine v_iinc (pc := 48) (v1 := x2 + (1 : Int32)) (lv' := [(2, .int (x2 + (1 : Int32))), (0, .ref (ly_o y 2)), (1, .int x1)]) K dX5_readTest_48 2 rfl rfl (by decide) rfl ?_
          refine v_goto (pc := 51) (tgt := 12) K dX5_readTest_51 (by decide) ?_
          refine v_sub [1, 2, 0] rfl ?_
          exact ih hF
        · refine v_iconst (pc := 36) (v := 0) K dX5_readTest_36 rfl ?_
          have hz := (Option.some.inj hF).symm
          subst hz
          exact v_zret (pc := 37) K hQ rfl dX5_readTest_37
def fX5_readTest (rc : QM → Int32 → Option (Int32 × QM)) (M : QM) (x1 : Int32) : Option (Int32 × QM) := (q_b (fX5_readPart rc M x1) fun r2 M3 => if r2 ≠ (0 : Int32) then (fX5_readTest_b12 rc q_F M3 x1 (0 : Int32)) else some ((0 : Int32), M3))
set_option maxRecDepth 100000 in
set_option maxHeartbeats 4000000 in
theorem bX5_readTest_0 {x : Cx} {y : Ly} (l : Launch) (d : Nat) {rc : QM → Int32 → Option (Int32 × QM)} (hrc : ∀ {M M1 : QM} {x1 : Int32} {r : Int32}, rc M x1 = some (r, M1) → Met l yX5_readFact wqX5_readFact (rmX5_readFact d) (q_P y [.ref (ly_o y 2), .int x1] M) (q_E y (some (.int r)) M1) 0 0 (ly_A y)) (K : VK x l (rmX5_readTest d) y 3 cX5_readTest RX5 wqX5_readTest) (hy : y.2.2.2.2 = 0) {z : Int32 × QM} (hQ : VQ x y (some (.int z.1)) z.2 (some .boolean)) {M : QM} {x1 : Int32} (hF : fX5_readTest rc M x1 = some z) : V x y 3 M 0 [(0, .ref (ly_o y 2)), (1, .int x1)] [] := by
  unfold fX5_readTest at hF
  refine v_aload_n (pc := 0) K dX5_readTest_0 0 rfl ?_
  refine v_iload_n (pc := 1) K dX5_readTest_1 1 rfl ?_
  obtain ⟨r2, M3, hc1, hF⟩ := q_bE hF
  refine v_callV (pc := 2) (ci := 5) (As := [.int x1]) (rest := []) (st' := [.int r2]) (r := some (.int r2)) (M1 := M3) K (kX5_readPart d hrc l K.2.2.2.2.2.2.1 hy hc1) (jg_V jl_X5_96 jw_i_X5_readPart jw_s_X5_readPart jw_n_X5 jw_c_X5_readPart) rfl rfl rfl jd_X5_readPart ⟨by simp only [rmX5_readPart, rmX5_readTest]; omega, by simp only [rmX5_readPart, rmX5_readTest]; omega⟩ rfl rfl (Nat.le_of_ble_eq_true rfl) (by decide) (okc_0 hy (by decide)) rfl dX5_readTest_2 rfl ?_
  refine v_if_ne (pc := 5) (tgt := 10) K dX5_readTest_5 (by decide) hF (fun c4 hF => ?_) (fun c4 hF => ?_)
  · refine v_iconst (pc := 10) (v := 0) K dX5_readTest_10 rfl ?_
    refine v_istore_n (pc := 11) (lv' := [(2, .int (0 : Int32)), (0, .ref (ly_o y 2)), (1, .int x1)]) K dX5_readTest_11 2 rfl (by decide) rfl ?_
    refine v_sub [1, 2, 0] rfl ?_
    exact bX5_readTest_12 l d hrc K hy hQ q_F hF
  · refine v_iconst (pc := 8) (v := 0) K dX5_readTest_8 rfl ?_
    have hz := (Option.some.inj hF).symm
    subst hz
    exact v_zret (pc := 9) K hQ rfl dX5_readTest_9
set_option maxRecDepth 100000 in
set_option maxHeartbeats 4000000 in
theorem kX5_readTest {l : Launch} {y : Ly} (d : Nat) {rc : QM → Int32 → Option (Int32 × QM)} (hrc : ∀ {M M1 : QM} {x1 : Int32} {r : Int32}, rc M x1 = some (r, M1) → Met l yX5_readFact wqX5_readFact (rmX5_readFact d) (q_P y [.ref (ly_o y 2), .int x1] M) (q_E y (some (.int r)) M1) 0 0 (ly_A y)) (l0 : Launch) (hJ : ly_J y) (hy : y.2.2.2.2 = 0) {M M1 : QM} {r : Int32} {x1 : Int32} (hF : fX5_readTest rc M x1 = some (r, M1)) : Met l yX5_readTest wqX5_readTest (rmX5_readTest d) (q_P y [.ref (ly_o y 2), .int x1] M) (q_E y (some (.int r)) M1) 0 0 (ly_A y) :=
  q_met (by decide) rfl hJ rfl rfl rfl (fun x K hQ => bX5_readTest_0 l d hrc K hy (z := (r, M1)) hQ  hF)
-- ===== X5_readFact (I)Z
def fX5_readFact_b98 (rc : QM → Int32 → Option (Int32 × QM)) (M : QM) (x1 : Int32) (x3 : Int32) : Option (Int32 × QM) := if x1 < (10 : Int32) then (q_t (p_i M 2 2 ((q_i M 2 2) + (1 : Int32))) fun M34 => if x3 = (0 : Int32) then (q_b (rc M34 (x1 + (1 : Int32))) fun r36 M37 => if r36 ≠ (0 : Int32) then (q_bv (fX2_addStep M37 (q_r M37 2 1) (20007 : Int32)) fun M41 => some ((1 : Int32), M41)) else some ((0 : Int32), M37)) else (q_b (fX5_readTest rc M34 (x1 + (1 : Int32))) fun r44 M45 => if r44 = (0 : Int32) then some ((0 : Int32), M45) else (q_b (fX5_takes M45 (349 : Int32)) fun r47 M48 => if r47 ≠ (0 : Int32) then some ((1 : Int32), M48) else (q_b (fX5_fail M48 (0 : Int32)) fun r50 M51 => if r50 = (0 : Int32) then some ((0 : Int32), M51) else some ((1 : Int32), M51))))) else (q_b (fX5_fail M (2 : Int32)) fun r57 M58 => if q_z r57 then some (r57, M58) else none)
set_option maxRecDepth 100000 in
set_option maxHeartbeats 4000000 in
theorem bX5_readFact_98 {x : Cx} {y : Ly} (l : Launch) (d : Nat) {rc : QM → Int32 → Option (Int32 × QM)} (hrc : ∀ {M M1 : QM} {x1 : Int32} {r : Int32}, rc M x1 = some (r, M1) → Met l yX5_readFact wqX5_readFact (rmX5_readFact d) (q_P y [.ref (ly_o y 2), .int x1] M) (q_E y (some (.int r)) M1) 0 0 (ly_A y)) (K : VK x l (rmX5_readFact (d + 1)) y 5 cX5_readFact RX5 wqX5_readFact) (hy : y.2.2.2.2 = 0) {z : Int32 × QM} (hQ : VQ x y (some (.int z.1)) z.2 (some .boolean)) {M : QM} {x1 : Int32} {x3 : Int32} (hF : fX5_readFact_b98 rc M x1 x3 = some z) : V x y 5 M 98 [(0, .ref (ly_o y 2)), (1, .int x1), (3, .int x3)] [] := by
  unfold fX5_readFact_b98 at hF
  refine v_iload_n (pc := 98) K dX5_readFact_98 1 rfl ?_
  refine v_bipush (pc := 99) (v := 10) K dX5_readFact_99 rfl ?_
  refine v_icmp_lt (pc := 101) (tgt := 110) K dX5_readFact_101 (by decide) hF (fun c60 hF => ?_) (fun c60 hF => ?_)
  · refine v_aload_n (pc := 110) K dX5_readFact_110 0 rfl ?_
    refine v_dup (pc := 111) K dX5_readFact_111 rfl ?_
    refine gX5_at (pc := 112) K hy (by decide) jn_X5 (List.mem_cons_of_mem _ jl_X5_32) dX5_readFact_112 ?_
    refine v_iconst (pc := 115) (v := 1) K dX5_readFact_115 rfl ?_
    refine v_iadd (pc := 116) K dX5_readFact_116 ?_
    refine pX5_at (pc := 117) K hy (by decide) jn_X5 (List.mem_cons_of_mem _ jl_X5_32) dX5_readFact_117 ?_
    refine v_nmM hF (fun M34 hF => ?_)
    refine v_iload_n (pc := 120) K dX5_readFact_120 2 rfl ?_
    refine v_if_eq (pc := 121) (tgt := 158) K dX5_readFact_121 (by decide) hF (fun c55 hF => ?_) (fun c55 hF => ?_)
    · refine v_aload_n (pc := 158) K dX5_readFact_158 0 rfl ?_
      refine v_iload_n (pc := 159) K dX5_readFact_159 1 rfl ?_
      refine v_iconst (pc := 160) (v := 1) K dX5_readFact_160 rfl ?_
      refine v_iadd (pc := 161) K dX5_readFact_161 ?_
      obtain ⟨r36, M37, hc35, hF⟩ := q_bE hF
      refine v_callV (pc := 162) (ci := 5) (As := [.int (x1 + (1 : Int32))]) (rest := []) (st' := [.int r36]) (r := some (.int r36)) (M1 := M37) K (hrc hc35) (jg_V jl_X5_103 jw_i_X5_readFact jw_s_X5_readFact jw_n_X5 jw_c_X5_readFact) rfl rfl rfl jd_X5_readFact ⟨by simp only [rmX5_readFact]; omega, by simp only [rmX5_readFact]; omega⟩ rfl rfl (Nat.le_of_ble_eq_true rfl) (by decide) (okc_0 hy (by decide)) rfl dX5_readFact_162 rfl ?_
      refine v_if_ne (pc := 165) (tgt := 170) K dX5_readFact_165 (by decide) hF (fun c42 hF => ?_) (fun c42 hF => ?_)
      · refine v_aload_n (pc := 170) K dX5_readFact_170 0 rfl ?_
        refine gX5_code (pc := 171) K hy (by decide) jn_X5 (List.mem_cons_of_mem _ jl_X5_21) dX5_readFact_171 ?_
        refine v_known (o := 2) (c := 5) (j := 1) (by decide) (okc_0 hy (by decide)) (by decide) rfl (fun hr38 => ?_)
        refine v_sipush (pc := 174) (v := 20007) K dX5_readFact_174 rfl ?_
        obtain ⟨M41, hc39, hF⟩ := q_bvE hF
        refine v_callV (pc := 177) (ci := 2) (As := [.int (20007 : Int32)]) (rest := []) (st' := []) (r := none) (M1 := M41) K (kX2_addStep l K.2.2.2.2.2.2.1 hy hr38 hc39) (jg_V jl_X5_99 jw_i_X2_addStep jw_s_X2_addStep jw_n_X2 jw_c_X2_addStep) rfl rfl rfl jd_X2_addStep ⟨by simp only [rmX2_addStep, rmX5_readFact]; omega, by simp only [rmX2_addStep, rmX5_readFact]; omega⟩ rfl rfl (Nat.le_of_ble_eq_true rfl) hr38 (okc_0 hy (by decide)) rfl dX5_readFact_177 rfl ?_
        refine v_iconst (pc := 180) (v := 1) K dX5_readFact_180 rfl ?_
        have hz := (Option.some.inj hF).symm
        subst hz
        exact v_zret (pc := 181) K hQ rfl dX5_readFact_181
      · refine v_iconst (pc := 168) (v := 0) K dX5_readFact_168 rfl ?_
        have hz := (Option.some.inj hF).symm
        subst hz
        exact v_zret (pc := 169) K hQ rfl dX5_readFact_169
    · refine v_aload_n (pc := 124) K dX5_readFact_124 0 rfl ?_
      refine v_iload_n (pc := 125) K dX5_readFact_125 1 rfl ?_
      refine v_iconst (pc := 126) (v := 1) K dX5_readFact_126 rfl ?_
      refine v_iadd (pc := 127) K dX5_readFact_127 ?_
      obtain ⟨r44, M45, hc43, hF⟩ := q_bE hF
      refine v_callV (pc := 128) (ci := 5) (As := [.int (x1 + (1 : Int32))]) (rest := []) (st' := [.int r44]) (r := some (.int r44)) (M1 := M45) K (kX5_readTest d hrc l K.2.2.2.2.2.2.1 hy hc43) (jg_V jl_X5_50 jw_i_X5_readTest jw_s_X5_readTest jw_n_X5 jw_c_X5_readTest) rfl rfl rfl jd_X5_readTest ⟨by simp only [rmX5_readTest, rmX5_readFact]; omega, by simp only [rmX5_readTest, rmX5_readFact]; omega⟩ rfl rfl (Nat.le_of_ble_eq_true rfl) (by decide) (okc_0 hy (by decide)) rfl dX5_readFact_128 rfl ?_
      refine v_if_eq (pc := 131) (tgt := 156) K dX5_readFact_131 (by decide) hF (fun c54 hF => ?_) (fun c54 hF => ?_)
      · refine v_iconst (pc := 156) (v := 0) K dX5_readFact_156 rfl ?_
        have hz := (Option.some.inj hF).symm
        subst hz
        exact v_zret (pc := 157) K hQ rfl dX5_readFact_157
      · refine v_aload_n (pc := 134) K dX5_readFact_134 0 rfl ?_
        refine v_sipush (pc := 135) (v := 349) K dX5_readFact_135 rfl ?_
        obtain ⟨r47, M48, hc46, hF⟩ := q_bE hF
        refine v_callV (pc := 138) (ci := 5) (As := [.int (349 : Int32)]) (rest := []) (st' := [.int r47]) (r := some (.int r47)) (M1 := M48) K (kX5_takes l K.2.2.2.2.2.2.1 hy hc46) (jg_V jl_X5_58 jw_i_X5_takes jw_s_X5_takes jw_n_X5 jw_c_X5_takes) rfl rfl rfl jd_X5_takes ⟨by simp only [rmX5_takes, rmX5_readFact]; omega, by simp only [rmX5_takes, rmX5_readFact]; omega⟩ rfl rfl (Nat.le_of_ble_eq_true rfl) (by decide) (okc_0 hy (by decide)) rfl dX5_readFact_138 rfl ?_
        refine v_if_ne (pc := 141) (tgt := 152) K dX5_readFact_141 (by decide) hF (fun c53 hF => ?_) (fun c53 hF => ?_)
        · refine v_iconst (pc := 152) (v := 1) K dX5_readFact_152 rfl ?_
          refine v_goto (pc := 153) (tgt := 157) K dX5_readFact_153 (by decide) ?_
          have hz := (Option.some.inj hF).symm
          subst hz
          exact v_zret (pc := 157) K hQ rfl dX5_readFact_157
        · refine v_aload_n (pc := 144) K dX5_readFact_144 0 rfl ?_
          refine v_iconst (pc := 145) (v := 0) K dX5_readFact_145 rfl ?_
          obtain ⟨r50, M51, hc49, hF⟩ := q_bE hF
          refine v_callV (pc := 146) (ci := 5) (As := [.int (0 : Int32)]) (rest := []) (st' := [.int r50]) (r := some (.int r50)) (M1 := M51) K (kX5_fail l K.2.2.2.2.2.2.1 hy hc49) (jg_V jl_X5_61 jw_i_X5_fail jw_s_X5_fail jw_n_X5 jw_c_X5_fail) rfl rfl rfl jd_X5_fail ⟨by simp only [rmX5_fail, rmX5_readFact]; omega, by simp only [rmX5_fail, rmX5_readFact]; omega⟩ rfl rfl (Nat.le_of_ble_eq_true rfl) (by decide) (okc_0 hy (by decide)) rfl dX5_readFact_146 rfl ?_
          refine v_if_eq (pc := 149) (tgt := 156) K dX5_readFact_149 (by decide) hF (fun c52 hF => ?_) (fun c52 hF => ?_)
          · refine v_iconst (pc := 156) (v := 0) K dX5_readFact_156 rfl ?_
            have hz := (Option.some.inj hF).symm
            subst hz
            exact v_zret (pc := 157) K hQ rfl dX5_readFact_157
          · refine v_iconst (pc := 152) (v := 1) K dX5_readFact_152 rfl ?_
            refine v_goto (pc := 153) (tgt := 157) K dX5_readFact_153 (by decide) ?_
            have hz := (Option.some.inj hF).symm
            subst hz
            exact v_zret (pc := 157) K hQ rfl dX5_readFact_157
  · refine v_aload_n (pc := 104) K dX5_readFact_104 0 rfl ?_
    refine v_iconst (pc := 105) (v := 2) K dX5_readFact_105 rfl ?_
    obtain ⟨r57, M58, hc56, hF⟩ := q_bE hF
    refine v_callV (pc := 106) (ci := 5) (As := [.int (2 : Int32)]) (rest := []) (st' := [.int r57]) (r := some (.int r57)) (M1 := M58) K (kX5_fail l K.2.2.2.2.2.2.1 hy hc56) (jg_V jl_X5_61 jw_i_X5_fail jw_s_X5_fail jw_n_X5 jw_c_X5_fail) rfl rfl rfl jd_X5_fail ⟨by simp only [rmX5_fail, rmX5_readFact]; omega, by simp only [rmX5_fail, rmX5_readFact]; omega⟩ rfl rfl (Nat.le_of_ble_eq_true rfl) (by decide) (okc_0 hy (by decide)) rfl dX5_readFact_106 rfl ?_
    obtain ⟨hz59, hF⟩ := q_kE hF
    have hz := (Option.some.inj hF).symm
    subst hz
    exact v_zret (pc := 109) K hQ (q_zn hz59) dX5_readFact_109
def fX5_readFact_b24 (rc : QM → Int32 → Option (Int32 × QM)) (M : QM) (x1 : Int32) (x2 : Int32) (s0 : Int32) : Option (Int32 × QM) := if s0 ≠ (0 : Int32) then (fX5_readFact_b98 rc M x1 s0) else if x2 = (17 : Int32) then (fX5_readFact_b98 rc M x1 s0) else (q_b (fX5_readSum M) fun r6 M7 => if r6 ≠ (0 : Int32) then (q_b (fX9_kindAt M7 (q_i M7 2 2)) fun r9 M10 => (q_b (fX5_comparisonOf M10 r9) fun r12 M13 => if (0 : Int32) ≤ r12 then (q_b (fX5_takesPart M13) fun r15 M16 => if r15 = (0 : Int32) then some ((0 : Int32), M16) else (q_b (fX5_readSum M16) fun r18 M19 => if r18 ≠ (0 : Int32) then (q_bv (fX2_addStep M19 (q_r M19 2 1) r12) fun M23 => some ((1 : Int32), M23)) else some ((0 : Int32), M19))) else (q_b (fX5_fail M13 (0 : Int32)) fun r27 M28 => if q_z r27 then some (r27, M28) else none))) else some ((0 : Int32), M7))
set_option maxRecDepth 100000 in
set_option maxHeartbeats 4000000 in
theorem bX5_readFact_24 {x : Cx} {y : Ly} (l : Launch) (d : Nat) {rc : QM → Int32 → Option (Int32 × QM)} (hrc : ∀ {M M1 : QM} {x1 : Int32} {r : Int32}, rc M x1 = some (r, M1) → Met l yX5_readFact wqX5_readFact (rmX5_readFact d) (q_P y [.ref (ly_o y 2), .int x1] M) (q_E y (some (.int r)) M1) 0 0 (ly_A y)) (K : VK x l (rmX5_readFact (d + 1)) y 5 cX5_readFact RX5 wqX5_readFact) (hy : y.2.2.2.2 = 0) {z : Int32 × QM} (hQ : VQ x y (some (.int z.1)) z.2 (some .boolean)) {M : QM} {x1 : Int32} {x2 : Int32} {s0 : Int32} (hF : fX5_readFact_b24 rc M x1 x2 s0 = some z) : V x y 5 M 24 [(0, .ref (ly_o y 2)), (1, .int x1), (2, .int x2)] [.int s0] := by
  unfold fX5_readFact_b24 at hF
  refine v_istore_n (pc := 24) (lv' := [(3, .int s0), (0, .ref (ly_o y 2)), (1, .int x1), (2, .int x2)]) K dX5_readFact_24 3 rfl (by decide) rfl ?_
  refine v_iload_n (pc := 25) K dX5_readFact_25 0 rfl ?_
  refine v_if_ne (pc := 26) (tgt := 98) K dX5_readFact_26 (by decide) hF (fun c33 hF => ?_) (fun c33 hF => ?_)
  · refine v_sub [1, 2, 0] rfl ?_
    exact bX5_readFact_98 l d hrc K hy hQ hF
  · refine v_iload_n (pc := 29) K dX5_readFact_29 3 rfl ?_
    refine v_bipush (pc := 30) (v := 17) K dX5_readFact_30 rfl ?_
    refine v_icmp_eq (pc := 32) (tgt := 98) K dX5_readFact_32 (by decide) hF (fun c32 hF => ?_) (fun c32 hF => ?_)
    · refine v_sub [1, 2, 0] rfl ?_
      exact bX5_readFact_98 l d hrc K hy hQ hF
    · refine v_aload_n (pc := 35) K dX5_readFact_35 1 rfl ?_
      obtain ⟨r6, M7, hc5, hF⟩ := q_bE hF
      refine v_callV (pc := 36) (ci := 5) (As := []) (rest := []) (st' := [.int r6]) (r := some (.int r6)) (M1 := M7) K (kX5_readSum l K.2.2.2.2.2.2.1 hy hc5) (jg_V jl_X5_106 jw_i_X5_readSum jw_s_X5_readSum jw_n_X5 jw_c_X5_readSum) rfl rfl rfl jd_X5_readSum ⟨by simp only [rmX5_readSum, rmX5_readFact]; omega, by simp only [rmX5_readSum, rmX5_readFact]; omega⟩ rfl rfl (Nat.le_of_ble_eq_true rfl) (by decide) (okc_0 hy (by decide)) rfl dX5_readFact_36 rfl ?_
      refine v_if_ne (pc := 39) (tgt := 44) K dX5_readFact_39 (by decide) hF (fun c31 hF => ?_) (fun c31 hF => ?_)
      · refine v_aload_n (pc := 44) K dX5_readFact_44 1 rfl ?_
        refine gX5_tokens (pc := 45) K hy (by decide) jn_X5 (List.mem_cons_of_mem _ jl_X5_12) dX5_readFact_45 ?_
        refine v_aload_n (pc := 48) K dX5_readFact_48 1 rfl ?_
        refine gX5_at (pc := 49) K hy (by decide) jn_X5 (List.mem_cons_of_mem _ jl_X5_32) dX5_readFact_49 ?_
        obtain ⟨r9, M10, hc8, hF⟩ := q_bE hF
        refine v_callV (pc := 52) (ci := 8) (As := [.int (q_i M7 2 2)]) (rest := []) (st' := [.int r9]) (r := some (.int r9)) (M1 := M10) K (kX9_kindAt l K.2.2.2.2.2.2.1 hy hc8) (jg_V jl_X5_54 jw_i_X9_kindAt jw_s_X9_kindAt jw_n_X9 jw_c_X9_kindAt) rfl rfl rfl jd_X9_kindAt ⟨by simp only [rmX9_kindAt, rmX5_readFact]; omega, by simp only [rmX9_kindAt, rmX5_readFact]; omega⟩ rfl rfl (Nat.le_of_ble_eq_true rfl) (by decide) (okc_0 hy (by decide)) rfl dX5_readFact_52 rfl ?_
        obtain ⟨r12, M13, hc11, hF⟩ := q_bE hF
        refine v_callS (pc := 55) (As := [.int r9]) (rest := []) (st' := [.int r12]) (r := some (.int r12)) (M1 := M13) K (kX5_comparisonOf l K.2.2.2.2.2.2.1 hy hc11) (jg_S jl_X5_109 jw_t_X5_comparisonOf jw_n_X5 jw_c_X5_comparisonOf) rfl rfl rfl jd_X5_comparisonOf ⟨by simp only [rmX5_comparisonOf, rmX5_readFact]; omega, by simp only [rmX5_comparisonOf, rmX5_readFact]; omega⟩ rfl rfl (Nat.le_of_ble_eq_true rfl) dX5_readFact_55 rfl ?_
        refine v_istore (pc := 58) (lv' := [(4, .int r12), (3, .int s0), (0, .ref (ly_o y 2)), (1, .int x1), (2, .int x2)]) K 4 dX5_readFact_58 (by decide) rfl ?_
        refine v_iload (pc := 60) K dX5_readFact_60 0 rfl ?_
        refine v_if_ge (pc := 62) (tgt := 71) K dX5_readFact_62 (by decide) hF (fun c30 hF => ?_) (fun c30 hF => ?_)
        · refine v_aload_n (pc := 71) K dX5_readFact_71 2 rfl ?_
          obtain ⟨r15, M16, hc14, hF⟩ := q_bE hF
          refine v_callV (pc := 72) (ci := 5) (As := []) (rest := []) (st' := [.int r15]) (r := some (.int r15)) (M1 := M16) K (kX5_takesPart l K.2.2.2.2.2.2.1 hy hc14) (jg_V jl_X5_112 jw_i_X5_takesPart jw_s_X5_takesPart jw_n_X5 jw_c_X5_takesPart) rfl rfl rfl jd_X5_takesPart ⟨by simp only [rmX5_takesPart, rmX5_readFact]; omega, by simp only [rmX5_takesPart, rmX5_readFact]; omega⟩ rfl rfl (Nat.le_of_ble_eq_true rfl) (by decide) (okc_0 hy (by decide)) rfl dX5_readFact_72 rfl ?_
          refine v_if_eq (pc := 75) (tgt := 85) K dX5_readFact_75 (by decide) hF (fun c25 hF => ?_) (fun c25 hF => ?_)
          · refine v_iconst (pc := 85) (v := 0) K dX5_readFact_85 rfl ?_
            have hz := (Option.some.inj hF).symm
            subst hz
            exact v_zret (pc := 86) K hQ rfl dX5_readFact_86
          · refine v_aload_n (pc := 78) K dX5_readFact_78 2 rfl ?_
            obtain ⟨r18, M19, hc17, hF⟩ := q_bE hF
            refine v_callV (pc := 79) (ci := 5) (As := []) (rest := []) (st' := [.int r18]) (r := some (.int r18)) (M1 := M19) K (kX5_readSum l K.2.2.2.2.2.2.1 hy hc17) (jg_V jl_X5_106 jw_i_X5_readSum jw_s_X5_readSum jw_n_X5 jw_c_X5_readSum) rfl rfl rfl jd_X5_readSum ⟨by simp only [rmX5_readSum, rmX5_readFact]; omega, by simp only [rmX5_readSum, rmX5_readFact]; omega⟩ rfl rfl (Nat.le_of_ble_eq_true rfl) (by decide) (okc_0 hy (by decide)) rfl dX5_readFact_79 rfl ?_
            refine v_if_ne (pc := 82) (tgt := 87) K dX5_readFact_82 (by decide) hF (fun c24 hF => ?_) (fun c24 hF => ?_)
            · refine v_aload_n (pc := 87) K dX5_readFact_87 2 rfl ?_
              refine gX5_code (pc := 88) K hy (by decide) jn_X5 (List.mem_cons_of_mem _ jl_X5_21) dX5_readFact_88 ?_
              refine v_known (o := 2) (c := 5) (j := 1) (by decide) (okc_0 hy (by decide)) (by decide) rfl (fun hr20 => ?_)
              refine v_iload (pc := 91) K dX5_readFact_91 0 rfl ?_
              obtain ⟨M23, hc21, hF⟩ := q_bvE hF
              refine v_callV (pc := 93) (ci := 2) (As := [.int r12]) (rest := []) (st' := []) (r := none) (M1 := M23) K (kX2_addStep l K.2.2.2.2.2.2.1 hy hr20 hc21) (jg_V jl_X5_99 jw_i_X2_addStep jw_s_X2_addStep jw_n_X2 jw_c_X2_addStep) rfl rfl rfl jd_X2_addStep ⟨by simp only [rmX2_addStep, rmX5_readFact]; omega, by simp only [rmX2_addStep, rmX5_readFact]; omega⟩ rfl rfl (Nat.le_of_ble_eq_true rfl) hr20 (okc_0 hy (by decide)) rfl dX5_readFact_93 rfl ?_
              refine v_iconst (pc := 96) (v := 1) K dX5_readFact_96 rfl ?_
              have hz := (Option.some.inj hF).symm
              subst hz
              exact v_zret (pc := 97) K hQ rfl dX5_readFact_97
            · refine v_iconst (pc := 85) (v := 0) K dX5_readFact_85 rfl ?_
              have hz := (Option.some.inj hF).symm
              subst hz
              exact v_zret (pc := 86) K hQ rfl dX5_readFact_86
        · refine v_aload_n (pc := 65) K dX5_readFact_65 2 rfl ?_
          refine v_iconst (pc := 66) (v := 0) K dX5_readFact_66 rfl ?_
          obtain ⟨r27, M28, hc26, hF⟩ := q_bE hF
          refine v_callV (pc := 67) (ci := 5) (As := [.int (0 : Int32)]) (rest := []) (st' := [.int r27]) (r := some (.int r27)) (M1 := M28) K (kX5_fail l K.2.2.2.2.2.2.1 hy hc26) (jg_V jl_X5_61 jw_i_X5_fail jw_s_X5_fail jw_n_X5 jw_c_X5_fail) rfl rfl rfl jd_X5_fail ⟨by simp only [rmX5_fail, rmX5_readFact]; omega, by simp only [rmX5_fail, rmX5_readFact]; omega⟩ rfl rfl (Nat.le_of_ble_eq_true rfl) (by decide) (okc_0 hy (by decide)) rfl dX5_readFact_67 rfl ?_
          obtain ⟨hz29, hF⟩ := q_kE hF
          have hz := (Option.some.inj hF).symm
          subst hz
          exact v_zret (pc := 70) K hQ (q_zn hz29) dX5_readFact_70
      · refine v_iconst (pc := 42) (v := 0) K dX5_readFact_42 rfl ?_
        have hz := (Option.some.inj hF).symm
        subst hz
        exact v_zret (pc := 43) K hQ rfl dX5_readFact_43
def fX5_readFact_b0 (rc : QM → Int32 → Option (Int32 × QM)) (M : QM) (x1 : Int32) : Option (Int32 × QM) := (q_b (fX9_kindAt M (q_i M 2 2)) fun r2 M3 => if r2 ≠ (347 : Int32) then (fX5_readFact_b24 rc M3 x1 r2 (0 : Int32)) else (fX5_readFact_b24 rc M3 x1 r2 (1 : Int32)))
set_option maxRecDepth 100000 in
set_option maxHeartbeats 4000000 in
theorem bX5_readFact_0 {x : Cx} {y : Ly} (l : Launch) (d : Nat) {rc : QM → Int32 → Option (Int32 × QM)} (hrc : ∀ {M M1 : QM} {x1 : Int32} {r : Int32}, rc M x1 = some (r, M1) → Met l yX5_readFact wqX5_readFact (rmX5_readFact d) (q_P y [.ref (ly_o y 2), .int x1] M) (q_E y (some (.int r)) M1) 0 0 (ly_A y)) (K : VK x l (rmX5_readFact (d + 1)) y 5 cX5_readFact RX5 wqX5_readFact) (hy : y.2.2.2.2 = 0) {z : Int32 × QM} (hQ : VQ x y (some (.int z.1)) z.2 (some .boolean)) {M : QM} {x1 : Int32} (hF : fX5_readFact_b0 rc M x1 = some z) : V x y 5 M 0 [(0, .ref (ly_o y 2)), (1, .int x1)] [] := by
  unfold fX5_readFact_b0 at hF
  refine v_aload_n (pc := 0) K dX5_readFact_0 0 rfl ?_
  refine gX5_tokens (pc := 1) K hy (by decide) jn_X5 (List.mem_cons_of_mem _ jl_X5_12) dX5_readFact_1 ?_
  refine v_aload_n (pc := 4) K dX5_readFact_4 0 rfl ?_
  refine gX5_at (pc := 5) K hy (by decide) jn_X5 (List.mem_cons_of_mem _ jl_X5_32) dX5_readFact_5 ?_
  obtain ⟨r2, M3, hc1, hF⟩ := q_bE hF
  refine v_callV (pc := 8) (ci := 8) (As := [.int (q_i M 2 2)]) (rest := []) (st' := [.int r2]) (r := some (.int r2)) (M1 := M3) K (kX9_kindAt l K.2.2.2.2.2.2.1 hy hc1) (jg_V jl_X5_54 jw_i_X9_kindAt jw_s_X9_kindAt jw_n_X9 jw_c_X9_kindAt) rfl rfl rfl jd_X9_kindAt ⟨by simp only [rmX9_kindAt, rmX5_readFact]; omega, by simp only [rmX9_kindAt, rmX5_readFact]; omega⟩ rfl rfl (Nat.le_of_ble_eq_true rfl) (by decide) (okc_0 hy (by decide)) rfl dX5_readFact_8 rfl ?_
  refine v_istore_n (pc := 11) (lv' := [(2, .int r2), (0, .ref (ly_o y 2)), (1, .int x1)]) K dX5_readFact_11 2 rfl (by decide) rfl ?_
  refine v_iload_n (pc := 12) K dX5_readFact_12 0 rfl ?_
  refine v_sipush (pc := 13) (v := 347) K dX5_readFact_13 rfl ?_
  refine v_icmp_ne (pc := 16) (tgt := 23) K dX5_readFact_16 (by decide) hF (fun c4 hF => ?_) (fun c4 hF => ?_)
  · refine v_iconst (pc := 23) (v := 0) K dX5_readFact_23 rfl ?_
    refine v_sub [1, 2, 0] rfl ?_
    exact bX5_readFact_24 l d hrc K hy hQ hF
  · refine v_iconst (pc := 19) (v := 1) K dX5_readFact_19 rfl ?_
    refine v_goto (pc := 20) (tgt := 24) K dX5_readFact_20 (by decide) ?_
    refine v_sub [1, 2, 0] rfl ?_
    exact bX5_readFact_24 l d hrc K hy hQ hF
def fX5_readFact : Nat → QM → Int32 → Option (Int32 × QM)
  | 0, _, _ => none
  | d + 1, M, x1 => fX5_readFact_b0 (fX5_readFact d) M x1
set_option maxRecDepth 100000 in
set_option maxHeartbeats 4000000 in
theorem kX5_readFact (l : Launch) {y : Ly} (hJ : ly_J y) (hy : y.2.2.2.2 = 0) : ∀ (d : Nat) {M M1 : QM} {r : Int32} {x1 : Int32}, fX5_readFact d M x1 = some (r, M1) → Met l yX5_readFact wqX5_readFact (rmX5_readFact d) (q_P y [.ref (ly_o y 2), .int x1] M) (q_E y (some (.int r)) M1) 0 0 (ly_A y) := by
  intro d
  induction d with
  | zero =>
    intro M M1 r x1  hF
    rw [fX5_readFact] at hF
    cases hF
  | succ d ih =>
    intro M M1 r x1  hF
    rw [fX5_readFact] at hF
    exact q_met (by decide) rfl hJ rfl rfl rfl (fun x K hQ => bX5_readFact_0 l d ih K hy (z := (r, M1)) hQ  hF)
-- ===== X5_read (LTwoCards$Tape;LTwoCards$Code;)I
theorem jd_X5_read : yX5_read.cls = RX5 ∧ yX5_read.cls ≠ "java/lang/invoke/MethodHandle" ∧ yX5_read.cls ≠ "java/lang/invoke/VarHandle" ∧ (parseMethodDescriptor yX5_read.desc).map (fun d => d.parameters.length) = some 2 := by decide +kernel
abbrev wqX5_read : List Cond := .code yX5_read cX5_read 4 (some .int) :: wsL_law
abbrev rmX5_read : Room := { frames := 52, cells := 0, slots := 0, locals := 1232 }
def fX5_read_b65 (M : QM) : Option (Int32 × QM) := some (q_i M 2 4, M)
set_option maxRecDepth 100000 in
set_option maxHeartbeats 4000000 in
theorem bX5_read_65 {x : Cx} {y : Ly} (l : Launch) (K : VK x l rmX5_read y 4 cX5_read RX5 wqX5_read) (hy : y.2.2.2.2 = 0) {z : Int32 × QM} (hQ : VQ x y (some (.int z.1)) z.2 (some .int)) {M : QM} (hF : fX5_read_b65 M  = some z) : V x y 4 M 65 [(0, .ref (ly_o y 2))] [] := by
  unfold fX5_read_b65 at hF
  refine v_aload_n (pc := 65) K dX5_read_65 0 rfl ?_
  refine gX5_fault (pc := 66) K hy (by decide) jn_X5 (List.mem_cons_of_mem _ jl_X5_39) dX5_read_66 ?_
  have hz := (Option.some.inj hF).symm
  subst hz
  exact v_iret (pc := 69) K hQ dX5_read_69
def fX5_read_b98 (M : QM) : Option (Int32 × QM) := (q_b (fX5_fail M (0 : Int32)) fun r31 M32 => some (q_i M32 2 4, M32))
set_option maxRecDepth 100000 in
set_option maxHeartbeats 4000000 in
theorem bX5_read_98 {x : Cx} {y : Ly} (l : Launch) (K : VK x l rmX5_read y 4 cX5_read RX5 wqX5_read) (hy : y.2.2.2.2 = 0) {z : Int32 × QM} (hQ : VQ x y (some (.int z.1)) z.2 (some .int)) {M : QM} (hF : fX5_read_b98 M  = some z) : V x y 4 M 98 [(0, .ref (ly_o y 2))] [] := by
  unfold fX5_read_b98 at hF
  refine v_aload_n (pc := 98) K dX5_read_98 0 rfl ?_
  refine v_iconst (pc := 99) (v := 0) K dX5_read_99 rfl ?_
  obtain ⟨r31, M32, hc30, hF⟩ := q_bE hF
  refine v_callV (pc := 100) (ci := 5) (As := [.int (0 : Int32)]) (rest := []) (st' := [.int r31]) (r := some (.int r31)) (M1 := M32) K (kX5_fail l K.2.2.2.2.2.2.1 hy hc30) (jg_V jl_X5_61 jw_i_X5_fail jw_s_X5_fail jw_n_X5 jw_c_X5_fail) rfl rfl rfl jd_X5_fail ⟨Nat.le_of_ble_eq_true rfl, Nat.le_of_ble_eq_true rfl⟩ rfl rfl (Nat.le_of_ble_eq_true rfl) (by decide) (okc_0 hy (by decide)) rfl dX5_read_100 rfl ?_
  refine v_pop (pc := 103) K dX5_read_103 rfl ?_
  refine v_aload_n (pc := 104) K dX5_read_104 0 rfl ?_
  refine gX5_fault (pc := 105) K hy (by decide) jn_X5 (List.mem_cons_of_mem _ jl_X5_39) dX5_read_105 ?_
  have hz := (Option.some.inj hF).symm
  subst hz
  exact v_iret (pc := 108) K hQ dX5_read_108
def fX5_read_b70 (k37 : QM → Int32 → Option (Int32 × QM)) (M : QM) (x3 : Int32) : Option (Int32 × QM) := (q_b (fX9_kindAt M (q_i M 2 2)) fun r23 M24 => if r23 ≠ (31 : Int32) then (q_b (fX5_takes M24 (315 : Int32)) fun r26 M27 => if r26 ≠ (0 : Int32) then (k37 M27 (x3 + (1 : Int32))) else (fX5_read_b98 M27)) else some ((0 : Int32), M24))
set_option maxRecDepth 100000 in
set_option maxHeartbeats 4000000 in
theorem bX5_read_70 {x : Cx} {y : Ly} (l : Launch) (K : VK x l rmX5_read y 4 cX5_read RX5 wqX5_read) (hy : y.2.2.2.2 = 0) {z : Int32 × QM} (hQ : VQ x y (some (.int z.1)) z.2 (some .int)) {k37 : QM → Int32 → Option (Int32 × QM)} (hk37 : ∀ {M : QM} {x3 : Int32}, k37 M x3 = some z → V x y 4 M 37 [(0, .ref (ly_o y 2)), (3, .int x3)] []) {M : QM} {x3 : Int32} (hF : fX5_read_b70 k37 M x3 = some z) : V x y 4 M 70 [(0, .ref (ly_o y 2)), (3, .int x3)] [] := by
  unfold fX5_read_b70 at hF
  refine v_aload_n (pc := 70) K dX5_read_70 0 rfl ?_
  refine gX5_tokens (pc := 71) K hy (by decide) jn_X5 (List.mem_cons_of_mem _ jl_X5_12) dX5_read_71 ?_
  refine v_aload_n (pc := 74) K dX5_read_74 0 rfl ?_
  refine gX5_at (pc := 75) K hy (by decide) jn_X5 (List.mem_cons_of_mem _ jl_X5_32) dX5_read_75 ?_
  obtain ⟨r23, M24, hc22, hF⟩ := q_bE hF
  refine v_callV (pc := 78) (ci := 8) (As := [.int (q_i M 2 2)]) (rest := []) (st' := [.int r23]) (r := some (.int r23)) (M1 := M24) K (kX9_kindAt l K.2.2.2.2.2.2.1 hy hc22) (jg_V jl_X5_54 jw_i_X9_kindAt jw_s_X9_kindAt jw_n_X9 jw_c_X9_kindAt) rfl rfl rfl jd_X9_kindAt ⟨Nat.le_of_ble_eq_true rfl, Nat.le_of_ble_eq_true rfl⟩ rfl rfl (Nat.le_of_ble_eq_true rfl) (by decide) (okc_0 hy (by decide)) rfl dX5_read_78 rfl ?_
  refine v_bipush (pc := 81) (v := 31) K dX5_read_81 rfl ?_
  refine v_icmp_ne (pc := 83) (tgt := 88) K dX5_read_83 (by decide) hF (fun c29 hF => ?_) (fun c29 hF => ?_)
  · refine v_aload_n (pc := 88) K dX5_read_88 0 rfl ?_
    refine v_sipush (pc := 89) (v := 315) K dX5_read_89 rfl ?_
    obtain ⟨r26, M27, hc25, hF⟩ := q_bE hF
    refine v_callV (pc := 92) (ci := 5) (As := [.int (315 : Int32)]) (rest := []) (st' := [.int r26]) (r := some (.int r26)) (M1 := M27) K (kX5_takes l K.2.2.2.2.2.2.1 hy hc25) (jg_V jl_X5_58 jw_i_X5_takes jw_s_X5_takes jw_n_X5 jw_c_X5_takes) rfl rfl rfl jd_X5_takes ⟨Nat.le_of_ble_eq_true rfl, Nat.le_of_ble_eq_true rfl⟩ rfl rfl (Nat.le_of_ble_eq_true rfl) (by decide) (okc_0 hy (by decide)) rfl dX5_read_92 rfl ?_
    refine v_if_ne (pc := 95) (tgt := 109) K dX5_read_95 (by decide) hF (fun c28 hF => ?_) (fun c28 hF => ?_)
    · refine v_iinc (pc := 109) (v1 := x3 + (1 : Int32)) (lv' := [(3, .int (x3 + (1 : Int32))), (0, .ref (ly_o y 2))]) K dX5_read_109 1 rfl rfl (by decide) rfl ?_
      refine v_goto (pc := 112) (tgt := 37) K dX5_read_112 (by decide) ?_
      refine v_sub [1, 0] rfl ?_
      exact hk37 hF
    · refine v_sub [0] rfl ?_
      exact bX5_read_98 l K hy hQ hF
  · refine v_iconst (pc := 86) (v := 0) K dX5_read_86 rfl ?_
    have hz := (Option.some.inj hF).symm
    subst hz
    exact v_iret (pc := 87) K hQ dX5_read_87
def fX5_read_b115 (M : QM) : Option (Int32 × QM) := some (q_i M 2 4, M)
set_option maxRecDepth 100000 in
set_option maxHeartbeats 4000000 in
theorem bX5_read_115 {x : Cx} {y : Ly} (l : Launch) (K : VK x l rmX5_read y 4 cX5_read RX5 wqX5_read) (hy : y.2.2.2.2 = 0) {z : Int32 × QM} (hQ : VQ x y (some (.int z.1)) z.2 (some .int)) {M : QM} (hF : fX5_read_b115 M  = some z) : V x y 4 M 115 [(0, .ref (ly_o y 2))] [] := by
  unfold fX5_read_b115 at hF
  refine v_aload_n (pc := 115) K dX5_read_115 0 rfl ?_
  refine gX5_fault (pc := 116) K hy (by decide) jn_X5 (List.mem_cons_of_mem _ jl_X5_39) dX5_read_116 ?_
  have hz := (Option.some.inj hF).symm
  subst hz
  exact v_iret (pc := 119) K hQ dX5_read_119
def fX5_read_b37 : Nat → QM → Int32 → Option (Int32 × QM)
  | 0, _, _ => none
  | q + 1, M, x3 => if (14 : Int32) < x3 then (fX5_read_b115 M) else (q_b (fX5_readHead M) fun r13 M14 => if r13 = (0 : Int32) then (fX5_read_b65 M14) else if (q_i M14 2 5) = (0 : Int32) then (fX5_read_b70 (fun M x3 => fX5_read_b37 q M x3) M14 x3) else (q_b (fX5_readTest (fX5_readFact 14) M14 (0 : Int32)) fun r16 M17 => if r16 ≠ (0 : Int32) then (fX5_read_b70 (fun M x3 => fX5_read_b37 q M x3) M17 x3) else (fX5_read_b65 M17)))
set_option maxRecDepth 100000 in
set_option maxHeartbeats 4000000 in
theorem bX5_read_37 {x : Cx} {y : Ly} (l : Launch) (K : VK x l rmX5_read y 4 cX5_read RX5 wqX5_read) (hy : y.2.2.2.2 = 0) {z : Int32 × QM} (hQ : VQ x y (some (.int z.1)) z.2 (some .int)) : ∀ (q : Nat) {M : QM} {x3 : Int32},  fX5_read_b37 q M x3 = some z → V x y 4 M 37 [(0, .ref (ly_o y 2)), (3, .int x3)] [] := by
  intro q
  induction q with
  | zero =>
    intro M x3  hF
    rw [fX5_read_b37] at hF
    cases hF
  | succ q ih =>
    intro M x3  hF
    rw [fX5_read_b37] at hF
    refine v_iload_n (pc := 37) K dX5_read_37 1 rfl ?_
    refine v_bipush (pc := 38) (v := 14) K dX5_read_38 rfl ?_
    refine v_icmp_gt (pc := 40) (tgt := 115) K dX5_read_40 (by decide) hF (fun c21 hF => ?_) (fun c21 hF => ?_)
    · refine v_sub [0] rfl ?_
      exact bX5_read_115 l K hy hQ hF
    · refine v_aload_n (pc := 43) K dX5_read_43 0 rfl ?_
      obtain ⟨r13, M14, hc12, hF⟩ := q_bE hF
      refine v_callV (pc := 44) (ci := 5) (As := []) (rest := []) (st' := [.int r13]) (r := some (.int r13)) (M1 := M14) K (kX5_readHead l K.2.2.2.2.2.2.1 hy hc12) (jg_V jl_X5_42 jw_i_X5_readHead jw_s_X5_readHead jw_n_X5 jw_c_X5_readHead) rfl rfl rfl jd_X5_readHead ⟨Nat.le_of_ble_eq_true rfl, Nat.le_of_ble_eq_true rfl⟩ rfl rfl (Nat.le_of_ble_eq_true rfl) (by decide) (okc_0 hy (by decide)) rfl dX5_read_44 rfl ?_
      refine v_if_eq (pc := 47) (tgt := 65) K dX5_read_47 (by decide) hF (fun c20 hF => ?_) (fun c20 hF => ?_)
      · refine v_sub [0] rfl ?_
        exact bX5_read_65 l K hy hQ hF
      · refine v_aload_n (pc := 50) K dX5_read_50 0 rfl ?_
        refine gX5_isTested (pc := 51) K hy (by decide) jn_X5 (List.mem_cons_of_mem _ jl_X5_46) dX5_read_51 ?_
        refine v_if_eq (pc := 54) (tgt := 70) K dX5_read_54 (by decide) hF (fun c19 hF => ?_) (fun c19 hF => ?_)
        · exact bX5_read_70 l K hy hQ ih hF
        · refine v_aload_n (pc := 57) K dX5_read_57 0 rfl ?_
          refine v_iconst (pc := 58) (v := 0) K dX5_read_58 rfl ?_
          obtain ⟨r16, M17, hc15, hF⟩ := q_bE hF
          refine v_callV (pc := 59) (ci := 5) (As := [.int (0 : Int32)]) (rest := []) (st' := [.int r16]) (r := some (.int r16)) (M1 := M17) K (kX5_readTest 14 (kX5_readFact l K.2.2.2.2.2.2.1 hy 14) l K.2.2.2.2.2.2.1 hy hc15) (jg_V jl_X5_50 jw_i_X5_readTest jw_s_X5_readTest jw_n_X5 jw_c_X5_readTest) rfl rfl rfl jd_X5_readTest ⟨Nat.le_of_ble_eq_true rfl, Nat.le_of_ble_eq_true rfl⟩ rfl rfl (Nat.le_of_ble_eq_true rfl) (by decide) (okc_0 hy (by decide)) rfl dX5_read_59 rfl ?_
          refine v_if_ne (pc := 62) (tgt := 70) K dX5_read_62 (by decide) hF (fun c18 hF => ?_) (fun c18 hF => ?_)
          · exact bX5_read_70 l K hy hQ ih hF
          · refine v_sub [0] rfl ?_
            exact bX5_read_65 l K hy hQ hF
def fX5_read (M : QM) (o2 : Nat) : Option (Int32 × QM) := (q_bv (fX9_take M) fun M3 => (q_t (p_r M3 2 1 o2) fun M4 => (q_bv (fX2_clear M4 (q_r M4 2 1)) fun M8 => (q_t (p_i M8 2 2 (0 : Int32)) fun M9 => (q_t (p_i M9 2 3 (0 : Int32)) fun M10 => (q_t (p_i M10 2 4 (0 : Int32)) fun M11 => (fX5_read_b37 q_F M11 (0 : Int32))))))))
set_option maxRecDepth 100000 in
set_option maxHeartbeats 4000000 in
theorem bX5_read_0 {x : Cx} {y : Ly} (l : Launch) (K : VK x l rmX5_read y 4 cX5_read RX5 wqX5_read) (hy : y.2.2.2.2 = 0) {z : Int32 × QM} (hQ : VQ x y (some (.int z.1)) z.2 (some .int)) {M : QM} {o2 : Nat} (ho2 : kls o2 = 2) (hF : fX5_read M o2 = some z) : V x y 4 M 0 [(0, .ref (ly_o y 2)), (1, .ref (ly_o y 1)), (2, .ref (ly_o y o2))] [] := by
  unfold fX5_read at hF
  refine v_aload_n (pc := 0) K dX5_read_0 0 rfl ?_
  refine gX5_tokens (pc := 1) K hy (by decide) jn_X5 (List.mem_cons_of_mem _ jl_X5_12) dX5_read_1 ?_
  refine v_aload_n (pc := 4) K dX5_read_4 1 rfl ?_
  obtain ⟨M3, hc1, hF⟩ := q_bvE hF
  refine v_callV (pc := 5) (ci := 8) (As := [.ref (ly_o y 1)]) (rest := []) (st' := []) (r := none) (M1 := M3) K (kX9_take l K.2.2.2.2.2.2.1 hy hc1) (jg_V jl_X5_25 jw_i_X9_take jw_s_X9_take jw_n_X9 jw_c_X9_take) rfl rfl rfl jd_X9_take ⟨Nat.le_of_ble_eq_true rfl, Nat.le_of_ble_eq_true rfl⟩ rfl rfl (Nat.le_of_ble_eq_true rfl) (by decide) (okc_0 hy (by decide)) rfl dX5_read_5 rfl ?_
  refine v_aload_n (pc := 8) K dX5_read_8 0 rfl ?_
  refine v_aload_n (pc := 9) K dX5_read_9 2 rfl ?_
  refine pX5_code (pc := 10) K hy ho2 (by decide) jn_X5 (List.mem_cons_of_mem _ jl_X5_21) dX5_read_10 ?_
  refine v_nmM hF (fun M4 hF => ?_)
  refine v_aload_n (pc := 13) K dX5_read_13 0 rfl ?_
  refine gX5_code (pc := 14) K hy (by decide) jn_X5 (List.mem_cons_of_mem _ jl_X5_21) dX5_read_14 ?_
  refine v_known (o := 2) (c := 5) (j := 1) (by decide) (okc_0 hy (by decide)) (by decide) rfl (fun hr5 => ?_)
  obtain ⟨M8, hc6, hF⟩ := q_bvE hF
  refine v_callV (pc := 17) (ci := 2) (As := []) (rest := []) (st' := []) (r := none) (M1 := M8) K (kX2_clear l K.2.2.2.2.2.2.1 hy hr5 hc6) (jg_V jl_X5_29 jw_i_X2_clear jw_s_X2_clear jw_n_X2 jw_c_X2_clear) rfl rfl rfl jd_X2_clear ⟨Nat.le_of_ble_eq_true rfl, Nat.le_of_ble_eq_true rfl⟩ rfl rfl (Nat.le_of_ble_eq_true rfl) hr5 (okc_0 hy (by decide)) rfl dX5_read_17 rfl ?_
  refine v_aload_n (pc := 20) K dX5_read_20 0 rfl ?_
  refine v_iconst (pc := 21) (v := 0) K dX5_read_21 rfl ?_
  refine pX5_at (pc := 22) K hy (by decide) jn_X5 (List.mem_cons_of_mem _ jl_X5_32) dX5_read_22 ?_
  refine v_nmM hF (fun M9 hF => ?_)
  refine v_aload_n (pc := 25) K dX5_read_25 0 rfl ?_
  refine v_iconst (pc := 26) (v := 0) K dX5_read_26 rfl ?_
  refine pX5_parts (pc := 27) K hy (by decide) jn_X5 (List.mem_cons_of_mem _ jl_X5_36) dX5_read_27 ?_
  refine v_nmM hF (fun M10 hF => ?_)
  refine v_aload_n (pc := 30) K dX5_read_30 0 rfl ?_
  refine v_iconst (pc := 31) (v := 0) K dX5_read_31 rfl ?_
  refine pX5_fault (pc := 32) K hy (by decide) jn_X5 (List.mem_cons_of_mem _ jl_X5_39) dX5_read_32 ?_
  refine v_nmM hF (fun M11 hF => ?_)
  refine v_iconst (pc := 35) (v := 0) K dX5_read_35 rfl ?_
  refine v_istore_n (pc := 36) (lv' := [(3, .int (0 : Int32)), (0, .ref (ly_o y 2)), (1, .ref (ly_o y 1)), (2, .ref (ly_o y o2))]) K dX5_read_36 3 rfl (by decide) rfl ?_
  refine v_sub [1, 0] rfl ?_
  exact bX5_read_37 l K hy hQ q_F hF
set_option maxRecDepth 100000 in
set_option maxHeartbeats 4000000 in
theorem kX5_read (l : Launch) {y : Ly} (hJ : ly_J y) (hy : y.2.2.2.2 = 0) {M M1 : QM} {r : Int32} {o2 : Nat} (ho2 : kls o2 = 2) (hF : fX5_read M o2 = some (r, M1)) : Met l yX5_read wqX5_read rmX5_read (q_P y [.ref (ly_o y 2), .ref (ly_o y 1), .ref (ly_o y o2)] M) (q_E y (some (.int r)) M1) 0 0 (ly_A y) :=
  q_met (by decide) rfl hJ rfl rfl rfl (fun x K hQ => bX5_read_0 l K hy (z := (r, M1)) hQ ho2 hF)
