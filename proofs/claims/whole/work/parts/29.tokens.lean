-- ===== X9_isLetter (I)Z
theorem jd_X9_isLetter : yX9_isLetter.cls ≠ "java/lang/invoke/MethodHandle" ∧ yX9_isLetter.cls ≠ "java/lang/invoke/VarHandle" ∧ (parseMethodDescriptor yX9_isLetter.desc).map (fun d => d.parameters.length) = some 1 := by decide +kernel
abbrev wqX9_isLetter : List Cond := .code yX9_isLetter cX9_isLetter 1 (some .boolean) :: wsL_law
abbrev rmX9_isLetter : Room := { frames := 0, cells := 0, slots := 0, locals := 0 }
def fX9_isLetter (M : QM) (x0 : Int32) : Option (Int32 × QM) := if x0 < (97 : Int32) then some ((0 : Int32), M) else if (122 : Int32) < x0 then some ((0 : Int32), M) else some ((1 : Int32), M)
set_option maxRecDepth 100000 in
set_option maxHeartbeats 4000000 in
theorem bX9_isLetter_0 {x : Cx} {y : Ly} (l : Launch) (K : VK x l rmX9_isLetter y 1 cX9_isLetter RX9 wqX9_isLetter) (hy : y.2.2.2.2 = 0) {z : Int32 × QM} (hQ : VQ x y (some (.int z.1)) z.2 (some .boolean)) {M : QM} {x0 : Int32} (hF : fX9_isLetter M x0 = some z) : V x y 1 M 0 [(0, .int x0)] [] := by
  unfold fX9_isLetter at hF
  refine v_iload_n (pc := 0) K dX9_isLetter_0 0 rfl ?_
  refine v_bipush (pc := 1) (v := 97) K dX9_isLetter_1 rfl ?_
  refine v_icmp_lt (pc := 3) (tgt := 16) K dX9_isLetter_3 (by decide) hF (fun c2 hF => ?_) (fun c2 hF => ?_)
  · refine v_iconst (pc := 16) (v := 0) K dX9_isLetter_16 rfl ?_
    have hz := (Option.some.inj hF).symm
    subst hz
    exact v_zret (pc := 17) K hQ rfl dX9_isLetter_17
  · refine v_iload_n (pc := 6) K dX9_isLetter_6 0 rfl ?_
    refine v_bipush (pc := 7) (v := 122) K dX9_isLetter_7 rfl ?_
    refine v_icmp_gt (pc := 9) (tgt := 16) K dX9_isLetter_9 (by decide) hF (fun c1 hF => ?_) (fun c1 hF => ?_)
    · refine v_iconst (pc := 16) (v := 0) K dX9_isLetter_16 rfl ?_
      have hz := (Option.some.inj hF).symm
      subst hz
      exact v_zret (pc := 17) K hQ rfl dX9_isLetter_17
    · refine v_iconst (pc := 12) (v := 1) K dX9_isLetter_12 rfl ?_
      refine v_goto (pc := 13) (tgt := 17) K dX9_isLetter_13 (by decide) ?_
      have hz := (Option.some.inj hF).symm
      subst hz
      exact v_zret (pc := 17) K hQ rfl dX9_isLetter_17
set_option maxRecDepth 100000 in
set_option maxHeartbeats 4000000 in
theorem kX9_isLetter (l : Launch) {y : Ly} (hJ : ly_J y) (hy : y.2.2.2.2 = 0) {M M1 : QM} {r : Int32} {x0 : Int32} (hF : fX9_isLetter M x0 = some (r, M1)) : Met l yX9_isLetter wqX9_isLetter rmX9_isLetter (q_P y [.int x0] M) (q_E y (some (.int r)) M1) 0 0 (ly_A y) :=
  q_met (by decide) rfl hJ rfl rfl rfl (fun x K hQ => bX9_isLetter_0 l K hy (z := (r, M1)) hQ  hF)
-- ===== X9_wordEnd (LTwoCards$Tape;I)I
theorem jd_X9_wordEnd : yX9_wordEnd.cls ≠ "java/lang/invoke/MethodHandle" ∧ yX9_wordEnd.cls ≠ "java/lang/invoke/VarHandle" ∧ (parseMethodDescriptor yX9_wordEnd.desc).map (fun d => d.parameters.length) = some 2 := by decide +kernel
abbrev wqX9_wordEnd : List Cond := .code yX9_wordEnd cX9_wordEnd 3 (some .int) :: wsL_law
abbrev rmX9_wordEnd : Room := { frames := 1, cells := 0, slots := 0, locals := 21 }
def fX9_wordEnd_b2 : Nat → QM → Int32 → Option (Int32 × QM)
  | 0, _, _ => none
  | q + 1, M, x2 => if (400 : Int32) ≤ x2 then some (x2, M) else (q_b (fX8_byteAt M x2) fun r2 M3 => (q_b (fX9_isLetter M3 r2) fun r5 M6 => if r5 = (0 : Int32) then some (x2, M6) else (fX9_wordEnd_b2 q M6 (x2 + (1 : Int32)))))
set_option maxRecDepth 100000 in
set_option maxHeartbeats 4000000 in
theorem bX9_wordEnd_2 {x : Cx} {y : Ly} (l : Launch) (K : VK x l rmX9_wordEnd y 3 cX9_wordEnd RX9 wqX9_wordEnd) (hy : y.2.2.2.2 = 0) {z : Int32 × QM} (hQ : VQ x y (some (.int z.1)) z.2 (some .int)) : ∀ (q : Nat) {M : QM} {x2 : Int32},  fX9_wordEnd_b2 q M x2 = some z → V x y 3 M 2 [(0, .ref (ly_o y 1)), (2, .int x2)] [] := by
  intro q
  induction q with
  | zero =>
    intro M x2  hF
    rw [fX9_wordEnd_b2] at hF
    cases hF
  | succ q ih =>
    intro M x2  hF
    rw [fX9_wordEnd_b2] at hF
    refine v_iload_n (pc := 2) K dX9_wordEnd_2 1 rfl ?_
    refine v_sipush (pc := 3) (v := 400) K dX9_wordEnd_3 rfl ?_
    refine v_icmp_ge (pc := 6) (tgt := 26) K dX9_wordEnd_6 (by decide) hF (fun c8 hF => ?_) (fun c8 hF => ?_)
    · refine v_iload_n (pc := 26) K dX9_wordEnd_26 1 rfl ?_
      have hz := (Option.some.inj hF).symm
      subst hz
      exact v_iret (pc := 27) K hQ dX9_wordEnd_27
    · refine v_aload_n (pc := 9) K dX9_wordEnd_9 0 rfl ?_
      refine v_iload_n (pc := 10) K dX9_wordEnd_10 1 rfl ?_
      obtain ⟨r2, M3, hc1, hF⟩ := q_bE hF
      refine v_callV (pc := 11) (ci := 7) (As := [.int x2]) (rest := []) (st' := [.int r2]) (r := some (.int r2)) (M1 := M3) K (kX8_byteAt l K.2.2.2.2.2.2.1 hy hc1) (jg_V jl_X9_30 jw_i_X8_byteAt jw_s_X8_byteAt jw_n_X8 jw_c_X8_byteAt) rfl rfl rfl jd_X8_byteAt ⟨Nat.le_of_ble_eq_true rfl, Nat.le_of_ble_eq_true rfl⟩ rfl rfl (Nat.le_of_ble_eq_true rfl) (by decide) (okc_0 hy (by decide)) rfl dX9_wordEnd_11 rfl ?_
      obtain ⟨r5, M6, hc4, hF⟩ := q_bE hF
      refine v_callS (pc := 14) (As := [.int r2]) (rest := []) (st' := [.int r5]) (r := some (.int r5)) (M1 := M6) K (kX9_isLetter l K.2.2.2.2.2.2.1 hy hc4) (jg_S jl_X9_34 jw_t_X9_isLetter jw_n_X9 jw_c_X9_isLetter) rfl rfl rfl jd_X9_isLetter ⟨Nat.le_of_ble_eq_true rfl, Nat.le_of_ble_eq_true rfl⟩ rfl rfl (Nat.le_of_ble_eq_true rfl) dX9_wordEnd_14 rfl ?_
      refine v_if_eq (pc := 17) (tgt := 26) K dX9_wordEnd_17 (by decide) hF (fun c7 hF => ?_) (fun c7 hF => ?_)
      · refine v_iload_n (pc := 26) K dX9_wordEnd_26 1 rfl ?_
        have hz := (Option.some.inj hF).symm
        subst hz
        exact v_iret (pc := 27) K hQ dX9_wordEnd_27
      · refine v_iinc (pc := 20) (v1 := x2 + (1 : Int32)) (lv' := [(2, .int (x2 + (1 : Int32))), (0, .ref (ly_o y 1))]) K dX9_wordEnd_20 1 rfl rfl (by decide) rfl ?_
        refine v_goto (pc := 23) (tgt := 2) K dX9_wordEnd_23 (by decide) ?_
        refine v_sub [1, 0] rfl ?_
        exact ih hF
def fX9_wordEnd (M : QM) (x1 : Int32) : Option (Int32 × QM) := (fX9_wordEnd_b2 q_F M x1)
set_option maxRecDepth 100000 in
set_option maxHeartbeats 4000000 in
theorem bX9_wordEnd_0 {x : Cx} {y : Ly} (l : Launch) (K : VK x l rmX9_wordEnd y 3 cX9_wordEnd RX9 wqX9_wordEnd) (hy : y.2.2.2.2 = 0) {z : Int32 × QM} (hQ : VQ x y (some (.int z.1)) z.2 (some .int)) {M : QM} {x1 : Int32} (hF : fX9_wordEnd M x1 = some z) : V x y 3 M 0 [(0, .ref (ly_o y 1)), (1, .int x1)] [] := by
  unfold fX9_wordEnd at hF
  refine v_iload_n (pc := 0) K dX9_wordEnd_0 1 rfl ?_
  refine v_istore_n (pc := 1) (lv' := [(2, .int x1), (0, .ref (ly_o y 1)), (1, .int x1)]) K dX9_wordEnd_1 2 rfl (by decide) rfl ?_
  refine v_sub [1, 0] rfl ?_
  exact bX9_wordEnd_2 l K hy hQ q_F hF
set_option maxRecDepth 100000 in
set_option maxHeartbeats 4000000 in
theorem kX9_wordEnd (l : Launch) {y : Ly} (hJ : ly_J y) (hy : y.2.2.2.2 = 0) {M M1 : QM} {r : Int32} {x1 : Int32} (hF : fX9_wordEnd M x1 = some (r, M1)) : Met l yX9_wordEnd wqX9_wordEnd rmX9_wordEnd (q_P y [.ref (ly_o y 1), .int x1] M) (q_E y (some (.int r)) M1) 0 0 (ly_A y) :=
  q_met (by decide) rfl hJ rfl rfl rfl (fun x K hQ => bX9_wordEnd_0 l K hy (z := (r, M1)) hQ  hF)
-- ===== X9_add (III)V
theorem jd_X9_add : yX9_add.cls = RX9 ∧ yX9_add.cls ≠ "java/lang/invoke/MethodHandle" ∧ yX9_add.cls ≠ "java/lang/invoke/VarHandle" ∧ (parseMethodDescriptor yX9_add.desc).map (fun d => d.parameters.length) = some 3 := by decide +kernel
abbrev wqX9_add : List Cond := .code yX9_add cX9_add 4 none :: wsL_law
abbrev rmX9_add : Room := { frames := 0, cells := 0, slots := 0, locals := 0 }
def fX9_add (M : QM) (x1 : Int32) (x2 : Int32) (x3 : Int32) : Option QM := if (q_i M 3 3) < (0 : Int32) then some M else if (400 : Int32) < (q_i M 3 3) then some M else (if q_in (q_i M 3 3) 401 then (q_t (p_a M 3 0 (q_i M 3 3).toNatClampNeg x1) fun M2 => (if q_in (q_i M2 3 3) 401 then (q_t (p_a M2 3 1 (q_i M2 3 3).toNatClampNeg x2) fun M4 => (if q_in (q_i M4 3 3) 401 then (q_t (p_a M4 3 2 (q_i M4 3 3).toNatClampNeg x3) fun M6 => (q_t (p_i M6 3 3 ((q_i M6 3 3) + (1 : Int32))) fun M7 => some M7)) else none)) else none)) else none)
set_option maxRecDepth 100000 in
set_option maxHeartbeats 4000000 in
theorem bX9_add_0 {x : Cx} {y : Ly} (l : Launch) (K : VK x l rmX9_add y 4 cX9_add RX9 wqX9_add) (hy : y.2.2.2.2 = 0) {z : QM} (hQ : VQ x y none z none) {M : QM} {x1 : Int32} {x2 : Int32} {x3 : Int32} (hF : fX9_add M x1 x2 x3 = some z) : V x y 4 M 0 [(0, .ref (ly_o y 3)), (1, .int x1), (2, .int x2), (3, .int x3)] [] := by
  unfold fX9_add at hF
  refine v_aload_n (pc := 0) K dX9_add_0 0 rfl ?_
  refine gX9_size (pc := 1) K hy (by decide) jn_X9 (List.mem_cons_of_mem _ jl_X9_21) dX9_add_1 ?_
  refine v_if_lt (pc := 4) (tgt := 57) K dX9_add_4 (by decide) hF (fun c9 hF => ?_) (fun c9 hF => ?_)
  · have hz := (Option.some.inj hF).symm
    subst hz
    exact v_vret (pc := 57) K hQ dX9_add_57
  · refine v_aload_n (pc := 7) K dX9_add_7 0 rfl ?_
    refine gX9_size (pc := 8) K hy (by decide) jn_X9 (List.mem_cons_of_mem _ jl_X9_21) dX9_add_8 ?_
    refine v_sipush (pc := 11) (v := 400) K dX9_add_11 rfl ?_
    refine v_icmp_gt (pc := 14) (tgt := 57) K dX9_add_14 (by decide) hF (fun c8 hF => ?_) (fun c8 hF => ?_)
    · have hz := (Option.some.inj hF).symm
      subst hz
      exact v_vret (pc := 57) K hQ dX9_add_57
    · refine v_aload_n (pc := 17) K dX9_add_17 0 rfl ?_
      refine gX9_kinds (pc := 18) K hy (by decide) jn_X9 (List.mem_cons_of_mem _ jl_X9_9) dX9_add_18 ?_
      refine v_aload_n (pc := 21) K dX9_add_21 0 rfl ?_
      refine gX9_size (pc := 22) K hy (by decide) jn_X9 (List.mem_cons_of_mem _ jl_X9_21) dX9_add_22 ?_
      refine v_iload_n (pc := 25) K dX9_add_25 1 rfl ?_
      refine uX9_kinds (pc := 26) K hy (by decide) hF dX9_add_26 (fun hi1 hF => ?_)
      refine v_nmM hF (fun M2 hF => ?_)
      refine v_aload_n (pc := 27) K dX9_add_27 0 rfl ?_
      refine gX9_places (pc := 28) K hy (by decide) jn_X9 (List.mem_cons_of_mem _ jl_X9_15) dX9_add_28 ?_
      refine v_aload_n (pc := 31) K dX9_add_31 0 rfl ?_
      refine gX9_size (pc := 32) K hy (by decide) jn_X9 (List.mem_cons_of_mem _ jl_X9_21) dX9_add_32 ?_
      refine v_iload_n (pc := 35) K dX9_add_35 2 rfl ?_
      refine uX9_places (pc := 36) K hy (by decide) hF dX9_add_36 (fun hi3 hF => ?_)
      refine v_nmM hF (fun M4 hF => ?_)
      refine v_aload_n (pc := 37) K dX9_add_37 0 rfl ?_
      refine gX9_numbers (pc := 38) K hy (by decide) jn_X9 (List.mem_cons_of_mem _ jl_X9_18) dX9_add_38 ?_
      refine v_aload_n (pc := 41) K dX9_add_41 0 rfl ?_
      refine gX9_size (pc := 42) K hy (by decide) jn_X9 (List.mem_cons_of_mem _ jl_X9_21) dX9_add_42 ?_
      refine v_iload_n (pc := 45) K dX9_add_45 3 rfl ?_
      refine uX9_numbers (pc := 46) K hy (by decide) hF dX9_add_46 (fun hi5 hF => ?_)
      refine v_nmM hF (fun M6 hF => ?_)
      refine v_aload_n (pc := 47) K dX9_add_47 0 rfl ?_
      refine v_dup (pc := 48) K dX9_add_48 rfl ?_
      refine gX9_size (pc := 49) K hy (by decide) jn_X9 (List.mem_cons_of_mem _ jl_X9_21) dX9_add_49 ?_
      refine v_iconst (pc := 52) (v := 1) K dX9_add_52 rfl ?_
      refine v_iadd (pc := 53) K dX9_add_53 ?_
      refine pX9_size (pc := 54) K hy (by decide) jn_X9 (List.mem_cons_of_mem _ jl_X9_21) dX9_add_54 ?_
      refine v_nmM hF (fun M7 hF => ?_)
      have hz := (Option.some.inj hF).symm
      subst hz
      exact v_vret (pc := 57) K hQ dX9_add_57
set_option maxRecDepth 100000 in
set_option maxHeartbeats 4000000 in
theorem kX9_add (l : Launch) {y : Ly} (hJ : ly_J y) (hy : y.2.2.2.2 = 0) {M M1 : QM} {x1 : Int32} {x2 : Int32} {x3 : Int32} (hF : fX9_add M x1 x2 x3 = some M1) : Met l yX9_add wqX9_add rmX9_add (q_P y [.ref (ly_o y 3), .int x1, .int x2, .int x3] M) (q_E y none M1) 0 0 (ly_A y) :=
  q_met (by decide) rfl hJ rfl rfl rfl (fun x K hQ => bX9_add_0 l K hy (z := M1) hQ  hF)
-- ===== X9_isDigit (I)Z
theorem jd_X9_isDigit : yX9_isDigit.cls ≠ "java/lang/invoke/MethodHandle" ∧ yX9_isDigit.cls ≠ "java/lang/invoke/VarHandle" ∧ (parseMethodDescriptor yX9_isDigit.desc).map (fun d => d.parameters.length) = some 1 := by decide +kernel
abbrev wqX9_isDigit : List Cond := .code yX9_isDigit cX9_isDigit 1 (some .boolean) :: wsL_law
abbrev rmX9_isDigit : Room := { frames := 0, cells := 0, slots := 0, locals := 0 }
def fX9_isDigit (M : QM) (x0 : Int32) : Option (Int32 × QM) := if x0 < (48 : Int32) then some ((0 : Int32), M) else if (57 : Int32) < x0 then some ((0 : Int32), M) else some ((1 : Int32), M)
set_option maxRecDepth 100000 in
set_option maxHeartbeats 4000000 in
theorem bX9_isDigit_0 {x : Cx} {y : Ly} (l : Launch) (K : VK x l rmX9_isDigit y 1 cX9_isDigit RX9 wqX9_isDigit) (hy : y.2.2.2.2 = 0) {z : Int32 × QM} (hQ : VQ x y (some (.int z.1)) z.2 (some .boolean)) {M : QM} {x0 : Int32} (hF : fX9_isDigit M x0 = some z) : V x y 1 M 0 [(0, .int x0)] [] := by
  unfold fX9_isDigit at hF
  refine v_iload_n (pc := 0) K dX9_isDigit_0 0 rfl ?_
  refine v_bipush (pc := 1) (v := 48) K dX9_isDigit_1 rfl ?_
  refine v_icmp_lt (pc := 3) (tgt := 16) K dX9_isDigit_3 (by decide) hF (fun c2 hF => ?_) (fun c2 hF => ?_)
  · refine v_iconst (pc := 16) (v := 0) K dX9_isDigit_16 rfl ?_
    have hz := (Option.some.inj hF).symm
    subst hz
    exact v_zret (pc := 17) K hQ rfl dX9_isDigit_17
  · refine v_iload_n (pc := 6) K dX9_isDigit_6 0 rfl ?_
    refine v_bipush (pc := 7) (v := 57) K dX9_isDigit_7 rfl ?_
    refine v_icmp_gt (pc := 9) (tgt := 16) K dX9_isDigit_9 (by decide) hF (fun c1 hF => ?_) (fun c1 hF => ?_)
    · refine v_iconst (pc := 16) (v := 0) K dX9_isDigit_16 rfl ?_
      have hz := (Option.some.inj hF).symm
      subst hz
      exact v_zret (pc := 17) K hQ rfl dX9_isDigit_17
    · refine v_iconst (pc := 12) (v := 1) K dX9_isDigit_12 rfl ?_
      refine v_goto (pc := 13) (tgt := 17) K dX9_isDigit_13 (by decide) ?_
      have hz := (Option.some.inj hF).symm
      subst hz
      exact v_zret (pc := 17) K hQ rfl dX9_isDigit_17
set_option maxRecDepth 100000 in
set_option maxHeartbeats 4000000 in
theorem kX9_isDigit (l : Launch) {y : Ly} (hJ : ly_J y) (hy : y.2.2.2.2 = 0) {M M1 : QM} {r : Int32} {x0 : Int32} (hF : fX9_isDigit M x0 = some (r, M1)) : Met l yX9_isDigit wqX9_isDigit rmX9_isDigit (q_P y [.int x0] M) (q_E y (some (.int r)) M1) 0 0 (ly_A y) :=
  q_met (by decide) rfl hJ rfl rfl rfl (fun x K hQ => bX9_isDigit_0 l K hy (z := (r, M1)) hQ  hF)
-- ===== X9_numberEnd (LTwoCards$Tape;I)I
theorem jd_X9_numberEnd : yX9_numberEnd.cls ≠ "java/lang/invoke/MethodHandle" ∧ yX9_numberEnd.cls ≠ "java/lang/invoke/VarHandle" ∧ (parseMethodDescriptor yX9_numberEnd.desc).map (fun d => d.parameters.length) = some 2 := by decide +kernel
abbrev wqX9_numberEnd : List Cond := .code yX9_numberEnd cX9_numberEnd 3 (some .int) :: wsL_law
abbrev rmX9_numberEnd : Room := { frames := 1, cells := 0, slots := 0, locals := 21 }
def fX9_numberEnd_b2 : Nat → QM → Int32 → Option (Int32 × QM)
  | 0, _, _ => none
  | q + 1, M, x2 => if (400 : Int32) ≤ x2 then some (x2, M) else (q_b (fX8_byteAt M x2) fun r2 M3 => (q_b (fX9_isDigit M3 r2) fun r5 M6 => if r5 = (0 : Int32) then some (x2, M6) else (fX9_numberEnd_b2 q M6 (x2 + (1 : Int32)))))
set_option maxRecDepth 100000 in
set_option maxHeartbeats 4000000 in
theorem bX9_numberEnd_2 {x : Cx} {y : Ly} (l : Launch) (K : VK x l rmX9_numberEnd y 3 cX9_numberEnd RX9 wqX9_numberEnd) (hy : y.2.2.2.2 = 0) {z : Int32 × QM} (hQ : VQ x y (some (.int z.1)) z.2 (some .int)) : ∀ (q : Nat) {M : QM} {x2 : Int32},  fX9_numberEnd_b2 q M x2 = some z → V x y 3 M 2 [(0, .ref (ly_o y 1)), (2, .int x2)] [] := by
  intro q
  induction q with
  | zero =>
    intro M x2  hF
    rw [fX9_numberEnd_b2] at hF
    cases hF
  | succ q ih =>
    intro M x2  hF
    rw [fX9_numberEnd_b2] at hF
    refine v_iload_n (pc := 2) K dX9_numberEnd_2 1 rfl ?_
    refine v_sipush (pc := 3) (v := 400) K dX9_numberEnd_3 rfl ?_
    refine v_icmp_ge (pc := 6) (tgt := 26) K dX9_numberEnd_6 (by decide) hF (fun c8 hF => ?_) (fun c8 hF => ?_)
    · refine v_iload_n (pc := 26) K dX9_numberEnd_26 1 rfl ?_
      have hz := (Option.some.inj hF).symm
      subst hz
      exact v_iret (pc := 27) K hQ dX9_numberEnd_27
    · refine v_aload_n (pc := 9) K dX9_numberEnd_9 0 rfl ?_
      refine v_iload_n (pc := 10) K dX9_numberEnd_10 1 rfl ?_
      obtain ⟨r2, M3, hc1, hF⟩ := q_bE hF
      refine v_callV (pc := 11) (ci := 7) (As := [.int x2]) (rest := []) (st' := [.int r2]) (r := some (.int r2)) (M1 := M3) K (kX8_byteAt l K.2.2.2.2.2.2.1 hy hc1) (jg_V jl_X9_30 jw_i_X8_byteAt jw_s_X8_byteAt jw_n_X8 jw_c_X8_byteAt) rfl rfl rfl jd_X8_byteAt ⟨Nat.le_of_ble_eq_true rfl, Nat.le_of_ble_eq_true rfl⟩ rfl rfl (Nat.le_of_ble_eq_true rfl) (by decide) (okc_0 hy (by decide)) rfl dX9_numberEnd_11 rfl ?_
      obtain ⟨r5, M6, hc4, hF⟩ := q_bE hF
      refine v_callS (pc := 14) (As := [.int r2]) (rest := []) (st' := [.int r5]) (r := some (.int r5)) (M1 := M6) K (kX9_isDigit l K.2.2.2.2.2.2.1 hy hc4) (jg_S jl_X9_50 jw_t_X9_isDigit jw_n_X9 jw_c_X9_isDigit) rfl rfl rfl jd_X9_isDigit ⟨Nat.le_of_ble_eq_true rfl, Nat.le_of_ble_eq_true rfl⟩ rfl rfl (Nat.le_of_ble_eq_true rfl) dX9_numberEnd_14 rfl ?_
      refine v_if_eq (pc := 17) (tgt := 26) K dX9_numberEnd_17 (by decide) hF (fun c7 hF => ?_) (fun c7 hF => ?_)
      · refine v_iload_n (pc := 26) K dX9_numberEnd_26 1 rfl ?_
        have hz := (Option.some.inj hF).symm
        subst hz
        exact v_iret (pc := 27) K hQ dX9_numberEnd_27
      · refine v_iinc (pc := 20) (v1 := x2 + (1 : Int32)) (lv' := [(2, .int (x2 + (1 : Int32))), (0, .ref (ly_o y 1))]) K dX9_numberEnd_20 1 rfl rfl (by decide) rfl ?_
        refine v_goto (pc := 23) (tgt := 2) K dX9_numberEnd_23 (by decide) ?_
        refine v_sub [1, 0] rfl ?_
        exact ih hF
def fX9_numberEnd (M : QM) (x1 : Int32) : Option (Int32 × QM) := (fX9_numberEnd_b2 q_F M x1)
set_option maxRecDepth 100000 in
set_option maxHeartbeats 4000000 in
theorem bX9_numberEnd_0 {x : Cx} {y : Ly} (l : Launch) (K : VK x l rmX9_numberEnd y 3 cX9_numberEnd RX9 wqX9_numberEnd) (hy : y.2.2.2.2 = 0) {z : Int32 × QM} (hQ : VQ x y (some (.int z.1)) z.2 (some .int)) {M : QM} {x1 : Int32} (hF : fX9_numberEnd M x1 = some z) : V x y 3 M 0 [(0, .ref (ly_o y 1)), (1, .int x1)] [] := by
  unfold fX9_numberEnd at hF
  refine v_iload_n (pc := 0) K dX9_numberEnd_0 1 rfl ?_
  refine v_istore_n (pc := 1) (lv' := [(2, .int x1), (0, .ref (ly_o y 1)), (1, .int x1)]) K dX9_numberEnd_1 2 rfl (by decide) rfl ?_
  refine v_sub [1, 0] rfl ?_
  exact bX9_numberEnd_2 l K hy hQ q_F hF
set_option maxRecDepth 100000 in
set_option maxHeartbeats 4000000 in
theorem kX9_numberEnd (l : Launch) {y : Ly} (hJ : ly_J y) (hy : y.2.2.2.2 = 0) {M M1 : QM} {r : Int32} {x1 : Int32} (hF : fX9_numberEnd M x1 = some (r, M1)) : Met l yX9_numberEnd wqX9_numberEnd rmX9_numberEnd (q_P y [.ref (ly_o y 1), .int x1] M) (q_E y (some (.int r)) M1) 0 0 (ly_A y) :=
  q_met (by decide) rfl hJ rfl rfl rfl (fun x K hQ => bX9_numberEnd_0 l K hy (z := (r, M1)) hQ  hF)
-- ===== X9_numberOf (LTwoCards$Tape;II)I
theorem jd_X9_numberOf : yX9_numberOf.cls ≠ "java/lang/invoke/MethodHandle" ∧ yX9_numberOf.cls ≠ "java/lang/invoke/VarHandle" ∧ (parseMethodDescriptor yX9_numberOf.desc).map (fun d => d.parameters.length) = some 3 := by decide +kernel
abbrev wqX9_numberOf : List Cond := .code yX9_numberOf cX9_numberOf 5 (some .int) :: wsL_law
abbrev rmX9_numberOf : Room := { frames := 1, cells := 0, slots := 0, locals := 21 }
def fX9_numberOf_b14 : Nat → QM → Int32 → Int32 → Int32 → Option (Int32 × QM)
  | 0, _, _, _, _ => none
  | q + 1, M, x2, x3, x4 => if x2 ≤ x4 then some (x3, M) else (q_b (fX8_byteAt M x4) fun r3 M4 => (fX9_numberOf_b14 q M4 x2 (((x3 * (10 : Int32)) + r3) - (48 : Int32)) (x4 + (1 : Int32))))
set_option maxRecDepth 100000 in
set_option maxHeartbeats 4000000 in
theorem bX9_numberOf_14 {x : Cx} {y : Ly} (l : Launch) (K : VK x l rmX9_numberOf y 5 cX9_numberOf RX9 wqX9_numberOf) (hy : y.2.2.2.2 = 0) {z : Int32 × QM} (hQ : VQ x y (some (.int z.1)) z.2 (some .int)) : ∀ (q : Nat) {M : QM} {x2 : Int32} {x3 : Int32} {x4 : Int32},  fX9_numberOf_b14 q M x2 x3 x4 = some z → V x y 5 M 14 [(0, .ref (ly_o y 1)), (2, .int x2), (3, .int x3), (4, .int x4)] [] := by
  intro q
  induction q with
  | zero =>
    intro M x2 x3 x4  hF
    rw [fX9_numberOf_b14] at hF
    cases hF
  | succ q ih =>
    intro M x2 x3 x4  hF
    rw [fX9_numberOf_b14] at hF
    refine v_iload (pc := 14) K dX9_numberOf_14 3 rfl ?_
    refine v_iload_n (pc := 16) K dX9_numberOf_16 1 rfl ?_
    refine v_icmp_ge (pc := 17) (tgt := 41) K dX9_numberOf_17 (by decide) hF (fun c5 hF => ?_) (fun c5 hF => ?_)
    · refine v_iload_n (pc := 41) K dX9_numberOf_41 2 rfl ?_
      have hz := (Option.some.inj hF).symm
      subst hz
      exact v_iret (pc := 42) K hQ dX9_numberOf_42
    · refine v_iload_n (pc := 20) K dX9_numberOf_20 2 rfl ?_
      refine v_bipush (pc := 21) (v := 10) K dX9_numberOf_21 rfl ?_
      refine v_imul (pc := 23) K dX9_numberOf_23 ?_
      refine v_aload_n (pc := 24) K dX9_numberOf_24 0 rfl ?_
      refine v_iload (pc := 25) K dX9_numberOf_25 3 rfl ?_
      obtain ⟨r3, M4, hc2, hF⟩ := q_bE hF
      refine v_callV (pc := 27) (ci := 7) (As := [.int x4]) (rest := [.int (x3 * (10 : Int32))]) (st' := [.int r3, .int (x3 * (10 : Int32))]) (r := some (.int r3)) (M1 := M4) K (kX8_byteAt l K.2.2.2.2.2.2.1 hy hc2) (jg_V jl_X9_30 jw_i_X8_byteAt jw_s_X8_byteAt jw_n_X8 jw_c_X8_byteAt) rfl rfl rfl jd_X8_byteAt ⟨Nat.le_of_ble_eq_true rfl, Nat.le_of_ble_eq_true rfl⟩ rfl rfl (Nat.le_of_ble_eq_true rfl) (by decide) (okc_0 hy (by decide)) rfl dX9_numberOf_27 rfl ?_
      refine v_iadd (pc := 30) K dX9_numberOf_30 ?_
      refine v_bipush (pc := 31) (v := 48) K dX9_numberOf_31 rfl ?_
      refine v_isub (pc := 33) K dX9_numberOf_33 ?_
      refine v_istore_n (pc := 34) (lv' := [(3, .int (((x3 * (10 : Int32)) + r3) - (48 : Int32))), (0, .ref (ly_o y 1)), (2, .int x2), (4, .int x4)]) K dX9_numberOf_34 3 rfl (by decide) rfl ?_
      refine v_iinc (pc := 35) (v1 := x4 + (1 : Int32)) (lv' := [(4, .int (x4 + (1 : Int32))), (3, .int (((x3 * (10 : Int32)) + r3) - (48 : Int32))), (0, .ref (ly_o y 1)), (2, .int x2)]) K dX9_numberOf_35 3 rfl rfl (by decide) rfl ?_
      refine v_goto (pc := 38) (tgt := 14) K dX9_numberOf_38 (by decide) ?_
      refine v_sub [2, 3, 1, 0] rfl ?_
      exact ih hF
def fX9_numberOf (M : QM) (x1 : Int32) (x2 : Int32) : Option (Int32 × QM) := if (x2 - x1) ≤ (4 : Int32) then (fX9_numberOf_b14 q_F M x2 (0 : Int32) x1) else some ((-1 : Int32), M)
set_option maxRecDepth 100000 in
set_option maxHeartbeats 4000000 in
theorem bX9_numberOf_0 {x : Cx} {y : Ly} (l : Launch) (K : VK x l rmX9_numberOf y 5 cX9_numberOf RX9 wqX9_numberOf) (hy : y.2.2.2.2 = 0) {z : Int32 × QM} (hQ : VQ x y (some (.int z.1)) z.2 (some .int)) {M : QM} {x1 : Int32} {x2 : Int32} (hF : fX9_numberOf M x1 x2 = some z) : V x y 5 M 0 [(0, .ref (ly_o y 1)), (1, .int x1), (2, .int x2)] [] := by
  unfold fX9_numberOf at hF
  refine v_iload_n (pc := 0) K dX9_numberOf_0 2 rfl ?_
  refine v_iload_n (pc := 1) K dX9_numberOf_1 1 rfl ?_
  refine v_isub (pc := 2) K dX9_numberOf_2 ?_
  refine v_iconst (pc := 3) (v := 4) K dX9_numberOf_3 rfl ?_
  refine v_icmp_le (pc := 4) (tgt := 9) K dX9_numberOf_4 (by decide) hF (fun c1 hF => ?_) (fun c1 hF => ?_)
  · refine v_iconst (pc := 9) (v := 0) K dX9_numberOf_9 rfl ?_
    refine v_istore_n (pc := 10) (lv' := [(3, .int (0 : Int32)), (0, .ref (ly_o y 1)), (1, .int x1), (2, .int x2)]) K dX9_numberOf_10 3 rfl (by decide) rfl ?_
    refine v_iload_n (pc := 11) K dX9_numberOf_11 2 rfl ?_
    refine v_istore (pc := 12) (lv' := [(4, .int x1), (3, .int (0 : Int32)), (0, .ref (ly_o y 1)), (1, .int x1), (2, .int x2)]) K 4 dX9_numberOf_12 (by decide) rfl ?_
    refine v_sub [2, 4, 1, 0] rfl ?_
    exact bX9_numberOf_14 l K hy hQ q_F hF
  · refine v_iconst (pc := 7) (v := -1) K dX9_numberOf_7 rfl ?_
    have hz := (Option.some.inj hF).symm
    subst hz
    exact v_iret (pc := 8) K hQ dX9_numberOf_8
set_option maxRecDepth 100000 in
set_option maxHeartbeats 4000000 in
theorem kX9_numberOf (l : Launch) {y : Ly} (hJ : ly_J y) (hy : y.2.2.2.2 = 0) {M M1 : QM} {r : Int32} {x1 : Int32} {x2 : Int32} (hF : fX9_numberOf M x1 x2 = some (r, M1)) : Met l yX9_numberOf wqX9_numberOf rmX9_numberOf (q_P y [.ref (ly_o y 1), .int x1, .int x2] M) (q_E y (some (.int r)) M1) 0 0 (ly_A y) :=
  q_met (by decide) rfl hJ rfl rfl rfl (fun x K hQ => bX9_numberOf_0 l K hy (z := (r, M1)) hQ  hF)
-- ===== X9_signOf (II)I
theorem jd_X9_signOf : yX9_signOf.cls ≠ "java/lang/invoke/MethodHandle" ∧ yX9_signOf.cls ≠ "java/lang/invoke/VarHandle" ∧ (parseMethodDescriptor yX9_signOf.desc).map (fun d => d.parameters.length) = some 2 := by decide +kernel
abbrev wqX9_signOf : List Cond := .code yX9_signOf cX9_signOf 2 (some .int) :: wsL_law
abbrev rmX9_signOf : Room := { frames := 0, cells := 0, slots := 0, locals := 0 }
def fX9_signOf (M : QM) (x0 : Int32) (x1 : Int32) : Option (Int32 × QM) := if x0 = (43 : Int32) then some ((256 : Int32) + x0, M) else if x0 = (45 : Int32) then some ((256 : Int32) + x0, M) else if x0 = (59 : Int32) then some ((256 : Int32) + x0, M) else if x0 = (60 : Int32) then if x1 ≠ (61 : Int32) then some ((256 : Int32) + x0, M) else some ((512 : Int32) + x0, M) else if x0 = (61 : Int32) then some ((256 : Int32) + x0, M) else if x0 = (62 : Int32) then if x1 ≠ (61 : Int32) then some ((256 : Int32) + x0, M) else some ((512 : Int32) + x0, M) else if x0 = (91 : Int32) then some ((256 : Int32) + x0, M) else if x0 = (93 : Int32) then some ((256 : Int32) + x0, M) else some ((32 : Int32), M)
set_option maxRecDepth 100000 in
set_option maxHeartbeats 4000000 in
theorem bX9_signOf_0 {x : Cx} {y : Ly} (l : Launch) (K : VK x l rmX9_signOf y 2 cX9_signOf RX9 wqX9_signOf) (hy : y.2.2.2.2 = 0) {z : Int32 × QM} (hQ : VQ x y (some (.int z.1)) z.2 (some .int)) {M : QM} {x0 : Int32} {x1 : Int32} (hF : fX9_signOf M x0 x1 = some z) : V x y 2 M 0 [(0, .int x0), (1, .int x1)] [] := by
  unfold fX9_signOf at hF
  refine v_iload_n (pc := 0) K dX9_signOf_0 0 rfl ?_
  rcases q_iE hF with ⟨c1, hF⟩ | ⟨c1, hF⟩
  · refine v_lookE (pc := 1) (tgt := 96) K c1 dX9_signOf_1 (by decide +kernel) (off := 95) (by decide +kernel) (by decide) ?_
    refine v_sipush (pc := 96) (v := 256) K dX9_signOf_96 rfl ?_
    refine v_iload_n (pc := 99) K dX9_signOf_99 0 rfl ?_
    refine v_iadd (pc := 100) K dX9_signOf_100 ?_
    have hz := (Option.some.inj hF).symm
    subst hz
    exact v_iret (pc := 101) K hQ dX9_signOf_101
  rcases q_iE hF with ⟨c2, hF⟩ | ⟨c2, hF⟩
  · refine v_lookE (pc := 1) (tgt := 96) K c2 dX9_signOf_1 (by decide +kernel) (off := 95) (by decide +kernel) (by decide) ?_
    refine v_sipush (pc := 96) (v := 256) K dX9_signOf_96 rfl ?_
    refine v_iload_n (pc := 99) K dX9_signOf_99 0 rfl ?_
    refine v_iadd (pc := 100) K dX9_signOf_100 ?_
    have hz := (Option.some.inj hF).symm
    subst hz
    exact v_iret (pc := 101) K hQ dX9_signOf_101
  rcases q_iE hF with ⟨c3, hF⟩ | ⟨c3, hF⟩
  · refine v_lookE (pc := 1) (tgt := 96) K c3 dX9_signOf_1 (by decide +kernel) (off := 95) (by decide +kernel) (by decide) ?_
    refine v_sipush (pc := 96) (v := 256) K dX9_signOf_96 rfl ?_
    refine v_iload_n (pc := 99) K dX9_signOf_99 0 rfl ?_
    refine v_iadd (pc := 100) K dX9_signOf_100 ?_
    have hz := (Option.some.inj hF).symm
    subst hz
    exact v_iret (pc := 101) K hQ dX9_signOf_101
  rcases q_iE hF with ⟨c4, hF⟩ | ⟨c4, hF⟩
  · refine v_lookE (pc := 1) (tgt := 76) K c4 dX9_signOf_1 (by decide +kernel) (off := 75) (by decide +kernel) (by decide) ?_
    refine v_iload_n (pc := 76) K dX9_signOf_76 1 rfl ?_
    refine v_bipush (pc := 77) (v := 61) K dX9_signOf_77 rfl ?_
    refine v_icmp_ne (pc := 79) (tgt := 90) K dX9_signOf_79 (by decide) hF (fun c5 hF => ?_) (fun c5 hF => ?_)
    · refine v_sipush (pc := 90) (v := 256) K dX9_signOf_90 rfl ?_
      refine v_iload_n (pc := 93) K dX9_signOf_93 0 rfl ?_
      refine v_iadd (pc := 94) K dX9_signOf_94 ?_
      have hz := (Option.some.inj hF).symm
      subst hz
      exact v_iret (pc := 95) K hQ dX9_signOf_95
    · refine v_sipush (pc := 82) (v := 512) K dX9_signOf_82 rfl ?_
      refine v_iload_n (pc := 85) K dX9_signOf_85 0 rfl ?_
      refine v_iadd (pc := 86) K dX9_signOf_86 ?_
      refine v_goto (pc := 87) (tgt := 95) K dX9_signOf_87 (by decide) ?_
      have hz := (Option.some.inj hF).symm
      subst hz
      exact v_iret (pc := 95) K hQ dX9_signOf_95
  rcases q_iE hF with ⟨c6, hF⟩ | ⟨c6, hF⟩
  · refine v_lookE (pc := 1) (tgt := 96) K c6 dX9_signOf_1 (by decide +kernel) (off := 95) (by decide +kernel) (by decide) ?_
    refine v_sipush (pc := 96) (v := 256) K dX9_signOf_96 rfl ?_
    refine v_iload_n (pc := 99) K dX9_signOf_99 0 rfl ?_
    refine v_iadd (pc := 100) K dX9_signOf_100 ?_
    have hz := (Option.some.inj hF).symm
    subst hz
    exact v_iret (pc := 101) K hQ dX9_signOf_101
  rcases q_iE hF with ⟨c7, hF⟩ | ⟨c7, hF⟩
  · refine v_lookE (pc := 1) (tgt := 76) K c7 dX9_signOf_1 (by decide +kernel) (off := 75) (by decide +kernel) (by decide) ?_
    refine v_iload_n (pc := 76) K dX9_signOf_76 1 rfl ?_
    refine v_bipush (pc := 77) (v := 61) K dX9_signOf_77 rfl ?_
    refine v_icmp_ne (pc := 79) (tgt := 90) K dX9_signOf_79 (by decide) hF (fun c8 hF => ?_) (fun c8 hF => ?_)
    · refine v_sipush (pc := 90) (v := 256) K dX9_signOf_90 rfl ?_
      refine v_iload_n (pc := 93) K dX9_signOf_93 0 rfl ?_
      refine v_iadd (pc := 94) K dX9_signOf_94 ?_
      have hz := (Option.some.inj hF).symm
      subst hz
      exact v_iret (pc := 95) K hQ dX9_signOf_95
    · refine v_sipush (pc := 82) (v := 512) K dX9_signOf_82 rfl ?_
      refine v_iload_n (pc := 85) K dX9_signOf_85 0 rfl ?_
      refine v_iadd (pc := 86) K dX9_signOf_86 ?_
      refine v_goto (pc := 87) (tgt := 95) K dX9_signOf_87 (by decide) ?_
      have hz := (Option.some.inj hF).symm
      subst hz
      exact v_iret (pc := 95) K hQ dX9_signOf_95
  rcases q_iE hF with ⟨c9, hF⟩ | ⟨c9, hF⟩
  · refine v_lookE (pc := 1) (tgt := 96) K c9 dX9_signOf_1 (by decide +kernel) (off := 95) (by decide +kernel) (by decide) ?_
    refine v_sipush (pc := 96) (v := 256) K dX9_signOf_96 rfl ?_
    refine v_iload_n (pc := 99) K dX9_signOf_99 0 rfl ?_
    refine v_iadd (pc := 100) K dX9_signOf_100 ?_
    have hz := (Option.some.inj hF).symm
    subst hz
    exact v_iret (pc := 101) K hQ dX9_signOf_101
  rcases q_iE hF with ⟨c10, hF⟩ | ⟨c10, hF⟩
  · refine v_lookE (pc := 1) (tgt := 96) K c10 dX9_signOf_1 (by decide +kernel) (off := 95) (by decide +kernel) (by decide) ?_
    refine v_sipush (pc := 96) (v := 256) K dX9_signOf_96 rfl ?_
    refine v_iload_n (pc := 99) K dX9_signOf_99 0 rfl ?_
    refine v_iadd (pc := 100) K dX9_signOf_100 ?_
    have hz := (Option.some.inj hF).symm
    subst hz
    exact v_iret (pc := 101) K hQ dX9_signOf_101
  refine v_look (pc := 1) (tgt := 102) K dX9_signOf_1 (by decide +kernel) (off := 101) (q_lk (q_nk c1 (by decide)) (q_lk (q_nk c2 (by decide)) (q_lk (q_nk c3 (by decide)) (q_lk (q_nk c4 (by decide)) (q_lk (q_nk c6 (by decide)) (q_lk (q_nk c7 (by decide)) (q_lk (q_nk c9 (by decide)) (q_lk (q_nk c10 (by decide)) rfl)))))))) (by decide) ?_
  refine v_bipush (pc := 102) (v := 32) K dX9_signOf_102 rfl ?_
  have hz := (Option.some.inj hF).symm
  subst hz
  exact v_iret (pc := 104) K hQ dX9_signOf_104
set_option maxRecDepth 100000 in
set_option maxHeartbeats 4000000 in
theorem kX9_signOf (l : Launch) {y : Ly} (hJ : ly_J y) (hy : y.2.2.2.2 = 0) {M M1 : QM} {r : Int32} {x0 : Int32} {x1 : Int32} (hF : fX9_signOf M x0 x1 = some (r, M1)) : Met l yX9_signOf wqX9_signOf rmX9_signOf (q_P y [.int x0, .int x1] M) (q_E y (some (.int r)) M1) 0 0 (ly_A y) :=
  q_met (by decide) rfl hJ rfl rfl rfl (fun x K hQ => bX9_signOf_0 l K hy (z := (r, M1)) hQ  hF)
-- ===== X9_take (LTwoCards$Tape;)V
theorem jd_X9_take : yX9_take.cls = RX9 ∧ yX9_take.cls ≠ "java/lang/invoke/MethodHandle" ∧ yX9_take.cls ≠ "java/lang/invoke/VarHandle" ∧ (parseMethodDescriptor yX9_take.desc).map (fun d => d.parameters.length) = some 1 := by decide +kernel
abbrev wqX9_take : List Cond := .code yX9_take cX9_take 6 none :: wsL_law
abbrev rmX9_take : Room := { frames := 9, cells := 0, slots := 0, locals := 426 }
def fX9_take_b151 (k9 : QM → Int32 → Int32 → Option QM) (M : QM) (x2 : Int32) (x3 : Int32) : Option QM := (k9 M x2 (x3 + (1 : Int32)))
set_option maxRecDepth 100000 in
set_option maxHeartbeats 4000000 in
theorem bX9_take_151 {x : Cx} {y : Ly} (l : Launch) (K : VK x l rmX9_take y 6 cX9_take RX9 wqX9_take) (hy : y.2.2.2.2 = 0) {z : QM} (hQ : VQ x y none z none) {k9 : QM → Int32 → Int32 → Option QM} (hk9 : ∀ {M : QM} {x2 : Int32} {x3 : Int32}, k9 M x2 x3 = some z → V x y 6 M 9 [(0, .ref (ly_o y 3)), (1, .ref (ly_o y 1)), (2, .int x2), (3, .int x3)] []) {M : QM} {x2 : Int32} {x3 : Int32} (hF : fX9_take_b151 k9 M x2 x3 = some z) : V x y 6 M 151 [(0, .ref (ly_o y 3)), (1, .ref (ly_o y 1)), (2, .int x2), (3, .int x3)] [] := by
  unfold fX9_take_b151 at hF
  refine v_iinc (pc := 151) (v1 := x3 + (1 : Int32)) (lv' := [(3, .int (x3 + (1 : Int32))), (0, .ref (ly_o y 3)), (1, .ref (ly_o y 1)), (2, .int x2)]) K dX9_take_151 3 rfl rfl (by decide) rfl ?_
  refine v_goto (pc := 154) (tgt := 9) K dX9_take_154 (by decide) ?_
  refine v_sub [1, 2, 3, 0] rfl ?_
  exact hk9 hF
def fX9_take_b149 (k9 : QM → Int32 → Int32 → Option QM) (M : QM) (x3 : Int32) (s0 : Int32) (s1 : Int32) : Option QM := (fX9_take_b151 k9 M (s1 + s0) x3)
set_option maxRecDepth 100000 in
set_option maxHeartbeats 4000000 in
theorem bX9_take_149 {x : Cx} {y : Ly} (l : Launch) (K : VK x l rmX9_take y 6 cX9_take RX9 wqX9_take) (hy : y.2.2.2.2 = 0) {z : QM} (hQ : VQ x y none z none) {k9 : QM → Int32 → Int32 → Option QM} (hk9 : ∀ {M : QM} {x2 : Int32} {x3 : Int32}, k9 M x2 x3 = some z → V x y 6 M 9 [(0, .ref (ly_o y 3)), (1, .ref (ly_o y 1)), (2, .int x2), (3, .int x3)] []) {M : QM} {x3 : Int32} {s0 : Int32} {s1 : Int32} (hF : fX9_take_b149 k9 M x3 s0 s1 = some z) : V x y 6 M 149 [(0, .ref (ly_o y 3)), (1, .ref (ly_o y 1)), (3, .int x3)] [.int s0, .int s1] := by
  unfold fX9_take_b149 at hF
  refine v_iadd (pc := 149) K dX9_take_149 ?_
  refine v_istore_n (pc := 150) (lv' := [(2, .int (s1 + s0)), (0, .ref (ly_o y 3)), (1, .ref (ly_o y 1)), (3, .int x3)]) K dX9_take_150 2 rfl (by decide) rfl ?_
  refine v_sub [1, 2, 0, 3] rfl ?_
  exact bX9_take_151 l K hy hQ hk9 hF
def fX9_take_b157 (M : QM) : Option QM := (q_bv (fX9_add M (31 : Int32) (q_i M 1 1) (0 : Int32)) fun M46 => some M46)
set_option maxRecDepth 100000 in
set_option maxHeartbeats 4000000 in
theorem bX9_take_157 {x : Cx} {y : Ly} (l : Launch) (K : VK x l rmX9_take y 6 cX9_take RX9 wqX9_take) (hy : y.2.2.2.2 = 0) {z : QM} (hQ : VQ x y none z none) {M : QM} (hF : fX9_take_b157 M  = some z) : V x y 6 M 157 [(0, .ref (ly_o y 3)), (1, .ref (ly_o y 1))] [] := by
  unfold fX9_take_b157 at hF
  refine v_aload_n (pc := 157) K dX9_take_157 0 rfl ?_
  refine v_bipush (pc := 158) (v := 31) K dX9_take_158 rfl ?_
  refine v_aload_n (pc := 160) K dX9_take_160 1 rfl ?_
  refine gX8_length (pc := 161) K hy (by decide) jn_X8 (List.mem_cons_of_mem _ jl_X9_25) dX9_take_161 ?_
  refine v_iconst (pc := 164) (v := 0) K dX9_take_164 rfl ?_
  obtain ⟨M46, hc44, hF⟩ := q_bvE hF
  refine v_callV (pc := 165) (ci := 8) (As := [.int (31 : Int32), .int (q_i M 1 1), .int (0 : Int32)]) (rest := []) (st' := []) (r := none) (M1 := M46) K (kX9_add l K.2.2.2.2.2.2.1 hy hc44) (jg_V jl_X9_46 jw_i_X9_add jw_s_X9_add jw_n_X9 jw_c_X9_add) rfl rfl rfl jd_X9_add ⟨Nat.le_of_ble_eq_true rfl, Nat.le_of_ble_eq_true rfl⟩ rfl rfl (Nat.le_of_ble_eq_true rfl) (by decide) (okc_0 hy (by decide)) rfl dX9_take_165 rfl ?_
  have hz := (Option.some.inj hF).symm
  subst hz
  exact v_vret (pc := 168) K hQ dX9_take_168
def fX9_take_b9 : Nat → QM → Int32 → Int32 → Option QM
  | 0, _, _, _ => none
  | q + 1, M, x2, x3 => if (400 : Int32) ≤ x3 then (fX9_take_b157 M) else if (q_i M 1 1) ≤ x2 then (fX9_take_b157 M) else (q_b (fX8_byteAt M x2) fun r3 M4 => if r3 ≠ (32 : Int32) then (q_b (fX9_isLetter M4 r3) fun r6 M7 => if r6 = (0 : Int32) then (q_b (fX9_isDigit M7 r3) fun r9 M10 => if r9 = (0 : Int32) then (q_b (fX8_byteAt M10 (x2 + (1 : Int32))) fun r12 M13 => (q_b (fX9_signOf M13 r3 r12) fun r15 M16 => (q_bv (fX9_add M16 r15 x2 (0 : Int32)) fun M19 => if r15 < (512 : Int32) then (fX9_take_b149 (fun M x2 x3 => fX9_take_b9 q M x2 x3) M19 x3 (1 : Int32) x2) else (fX9_take_b149 (fun M x2 x3 => fX9_take_b9 q M x2 x3) M19 x3 (2 : Int32) x2)))) else (q_b (fX9_numberEnd M10 x2) fun r22 M23 => (q_b (fX9_numberOf M23 x2 r22) fun r25 M26 => (q_bv (fX9_add M26 (30 : Int32) x2 r25) fun M29 => (fX9_take_b151 (fun M x2 x3 => fX9_take_b9 q M x2 x3) M29 r22 x3))))) else (q_b (fX9_wordEnd M7 x2) fun r32 M33 => (q_b (fX9_wordOf M33 x2 r32) fun r35 M36 => (q_bv (fX9_add M36 r35 x2 (0 : Int32)) fun M39 => (fX9_take_b151 (fun M x2 x3 => fX9_take_b9 q M x2 x3) M39 r32 x3))))) else (fX9_take_b151 (fun M x2 x3 => fX9_take_b9 q M x2 x3) M4 (x2 + (1 : Int32)) x3))
set_option maxRecDepth 100000 in
set_option maxHeartbeats 4000000 in
theorem bX9_take_9 {x : Cx} {y : Ly} (l : Launch) (K : VK x l rmX9_take y 6 cX9_take RX9 wqX9_take) (hy : y.2.2.2.2 = 0) {z : QM} (hQ : VQ x y none z none) : ∀ (q : Nat) {M : QM} {x2 : Int32} {x3 : Int32},  fX9_take_b9 q M x2 x3 = some z → V x y 6 M 9 [(0, .ref (ly_o y 3)), (1, .ref (ly_o y 1)), (2, .int x2), (3, .int x3)] [] := by
  intro q
  induction q with
  | zero =>
    intro M x2 x3  hF
    rw [fX9_take_b9] at hF
    cases hF
  | succ q ih =>
    intro M x2 x3  hF
    rw [fX9_take_b9] at hF
    refine v_iload_n (pc := 9) K dX9_take_9 3 rfl ?_
    refine v_sipush (pc := 10) (v := 400) K dX9_take_10 rfl ?_
    refine v_icmp_ge (pc := 13) (tgt := 157) K dX9_take_13 (by decide) hF (fun c43 hF => ?_) (fun c43 hF => ?_)
    · refine v_sub [0, 1] rfl ?_
      exact bX9_take_157 l K hy hQ hF
    · refine v_iload_n (pc := 16) K dX9_take_16 2 rfl ?_
      refine v_aload_n (pc := 17) K dX9_take_17 1 rfl ?_
      refine gX8_length (pc := 18) K hy (by decide) jn_X8 (List.mem_cons_of_mem _ jl_X9_25) dX9_take_18 ?_
      refine v_icmp_ge (pc := 21) (tgt := 157) K dX9_take_21 (by decide) hF (fun c42 hF => ?_) (fun c42 hF => ?_)
      · refine v_sub [0, 1] rfl ?_
        exact bX9_take_157 l K hy hQ hF
      · refine v_aload_n (pc := 24) K dX9_take_24 1 rfl ?_
        refine v_iload_n (pc := 25) K dX9_take_25 2 rfl ?_
        obtain ⟨r3, M4, hc2, hF⟩ := q_bE hF
        refine v_callV (pc := 26) (ci := 7) (As := [.int x2]) (rest := []) (st' := [.int r3]) (r := some (.int r3)) (M1 := M4) K (kX8_byteAt l K.2.2.2.2.2.2.1 hy hc2) (jg_V jl_X9_30 jw_i_X8_byteAt jw_s_X8_byteAt jw_n_X8 jw_c_X8_byteAt) rfl rfl rfl jd_X8_byteAt ⟨Nat.le_of_ble_eq_true rfl, Nat.le_of_ble_eq_true rfl⟩ rfl rfl (Nat.le_of_ble_eq_true rfl) (by decide) (okc_0 hy (by decide)) rfl dX9_take_26 rfl ?_
        refine v_istore (pc := 29) (lv' := [(4, .int r3), (0, .ref (ly_o y 3)), (1, .ref (ly_o y 1)), (2, .int x2), (3, .int x3)]) K 4 dX9_take_29 (by decide) rfl ?_
        refine v_iload (pc := 31) K dX9_take_31 0 rfl ?_
        refine v_bipush (pc := 33) (v := 32) K dX9_take_33 rfl ?_
        refine v_icmp_ne (pc := 35) (tgt := 44) K dX9_take_35 (by decide) hF (fun c41 hF => ?_) (fun c41 hF => ?_)
        · refine v_iload (pc := 44) K dX9_take_44 0 rfl ?_
          obtain ⟨r6, M7, hc5, hF⟩ := q_bE hF
          refine v_callS (pc := 46) (As := [.int r3]) (rest := []) (st' := [.int r6]) (r := some (.int r6)) (M1 := M7) K (kX9_isLetter l K.2.2.2.2.2.2.1 hy hc5) (jg_S jl_X9_34 jw_t_X9_isLetter jw_n_X9 jw_c_X9_isLetter) rfl rfl rfl jd_X9_isLetter ⟨Nat.le_of_ble_eq_true rfl, Nat.le_of_ble_eq_true rfl⟩ rfl rfl (Nat.le_of_ble_eq_true rfl) dX9_take_46 rfl ?_
          refine v_if_eq (pc := 49) (tgt := 78) K dX9_take_49 (by decide) hF (fun c40 hF => ?_) (fun c40 hF => ?_)
          · refine v_iload (pc := 78) K dX9_take_78 0 rfl ?_
            obtain ⟨r9, M10, hc8, hF⟩ := q_bE hF
            refine v_callS (pc := 80) (As := [.int r3]) (rest := []) (st' := [.int r9]) (r := some (.int r9)) (M1 := M10) K (kX9_isDigit l K.2.2.2.2.2.2.1 hy hc8) (jg_S jl_X9_50 jw_t_X9_isDigit jw_n_X9 jw_c_X9_isDigit) rfl rfl rfl jd_X9_isDigit ⟨Nat.le_of_ble_eq_true rfl, Nat.le_of_ble_eq_true rfl⟩ rfl rfl (Nat.le_of_ble_eq_true rfl) dX9_take_80 rfl ?_
            refine v_if_eq (pc := 83) (tgt := 113) K dX9_take_83 (by decide) hF (fun c30 hF => ?_) (fun c30 hF => ?_)
            · refine v_iload (pc := 113) K dX9_take_113 0 rfl ?_
              refine v_aload_n (pc := 115) K dX9_take_115 2 rfl ?_
              refine v_iload_n (pc := 116) K dX9_take_116 3 rfl ?_
              refine v_iconst (pc := 117) (v := 1) K dX9_take_117 rfl ?_
              refine v_iadd (pc := 118) K dX9_take_118 ?_
              obtain ⟨r12, M13, hc11, hF⟩ := q_bE hF
              refine v_callV (pc := 119) (ci := 7) (As := [.int (x2 + (1 : Int32))]) (rest := [.int r3]) (st' := [.int r12, .int r3]) (r := some (.int r12)) (M1 := M13) K (kX8_byteAt l K.2.2.2.2.2.2.1 hy hc11) (jg_V jl_X9_30 jw_i_X8_byteAt jw_s_X8_byteAt jw_n_X8 jw_c_X8_byteAt) rfl rfl rfl jd_X8_byteAt ⟨Nat.le_of_ble_eq_true rfl, Nat.le_of_ble_eq_true rfl⟩ rfl rfl (Nat.le_of_ble_eq_true rfl) (by decide) (okc_0 hy (by decide)) rfl dX9_take_119 rfl ?_
              obtain ⟨r15, M16, hc14, hF⟩ := q_bE hF
              refine v_callS (pc := 122) (As := [.int r3, .int r12]) (rest := []) (st' := [.int r15]) (r := some (.int r15)) (M1 := M16) K (kX9_signOf l K.2.2.2.2.2.2.1 hy hc14) (jg_S jl_X9_59 jw_t_X9_signOf jw_n_X9 jw_c_X9_signOf) rfl rfl rfl jd_X9_signOf ⟨Nat.le_of_ble_eq_true rfl, Nat.le_of_ble_eq_true rfl⟩ rfl rfl (Nat.le_of_ble_eq_true rfl) dX9_take_122 rfl ?_
              refine v_istore (pc := 125) (lv' := [(5, .int r15), (4, .int r3), (0, .ref (ly_o y 3)), (1, .ref (ly_o y 1)), (2, .int x2), (3, .int x3)]) K 5 dX9_take_125 (by decide) rfl ?_
              refine v_aload_n (pc := 127) K dX9_take_127 2 rfl ?_
              refine v_iload (pc := 128) K dX9_take_128 0 rfl ?_
              refine v_iload_n (pc := 130) K dX9_take_130 4 rfl ?_
              refine v_iconst (pc := 131) (v := 0) K dX9_take_131 rfl ?_
              obtain ⟨M19, hc17, hF⟩ := q_bvE hF
              refine v_callV (pc := 132) (ci := 8) (As := [.int r15, .int x2, .int (0 : Int32)]) (rest := []) (st' := []) (r := none) (M1 := M19) K (kX9_add l K.2.2.2.2.2.2.1 hy hc17) (jg_V jl_X9_46 jw_i_X9_add jw_s_X9_add jw_n_X9 jw_c_X9_add) rfl rfl rfl jd_X9_add ⟨Nat.le_of_ble_eq_true rfl, Nat.le_of_ble_eq_true rfl⟩ rfl rfl (Nat.le_of_ble_eq_true rfl) (by decide) (okc_0 hy (by decide)) rfl dX9_take_132 rfl ?_
              refine v_iload_n (pc := 135) K dX9_take_135 4 rfl ?_
              refine v_iload (pc := 136) K dX9_take_136 0 rfl ?_
              refine v_sipush (pc := 138) (v := 512) K dX9_take_138 rfl ?_
              refine v_icmp_lt (pc := 141) (tgt := 148) K dX9_take_141 (by decide) hF (fun c20 hF => ?_) (fun c20 hF => ?_)
              · refine v_iconst (pc := 148) (v := 1) K dX9_take_148 rfl ?_
                refine v_sub [2, 3, 5] rfl ?_
                exact bX9_take_149 l K hy hQ ih hF
              · refine v_iconst (pc := 144) (v := 2) K dX9_take_144 rfl ?_
                refine v_goto (pc := 145) (tgt := 149) K dX9_take_145 (by decide) ?_
                refine v_sub [2, 3, 5] rfl ?_
                exact bX9_take_149 l K hy hQ ih hF
            · refine v_aload_n (pc := 86) K dX9_take_86 2 rfl ?_
              refine v_iload_n (pc := 87) K dX9_take_87 3 rfl ?_
              obtain ⟨r22, M23, hc21, hF⟩ := q_bE hF
              refine v_callS (pc := 88) (As := [.ref (ly_o y 1), .int x2]) (rest := []) (st' := [.int r22]) (r := some (.int r22)) (M1 := M23) K (kX9_numberEnd l K.2.2.2.2.2.2.1 hy hc21) (jg_S jl_X9_53 jw_t_X9_numberEnd jw_n_X9 jw_c_X9_numberEnd) rfl rfl rfl jd_X9_numberEnd ⟨Nat.le_of_ble_eq_true rfl, Nat.le_of_ble_eq_true rfl⟩ rfl rfl (Nat.le_of_ble_eq_true rfl) dX9_take_88 rfl ?_
              refine v_istore (pc := 91) (lv' := [(5, .int r22), (4, .int r3), (0, .ref (ly_o y 3)), (1, .ref (ly_o y 1)), (2, .int x2), (3, .int x3)]) K 5 dX9_take_91 (by decide) rfl ?_
              refine v_aload_n (pc := 93) K dX9_take_93 2 rfl ?_
              refine v_bipush (pc := 94) (v := 30) K dX9_take_94 rfl ?_
              refine v_iload_n (pc := 96) K dX9_take_96 4 rfl ?_
              refine v_aload_n (pc := 97) K dX9_take_97 3 rfl ?_
              refine v_iload_n (pc := 98) K dX9_take_98 4 rfl ?_
              refine v_iload (pc := 99) K dX9_take_99 0 rfl ?_
              obtain ⟨r25, M26, hc24, hF⟩ := q_bE hF
              refine v_callS (pc := 101) (As := [.ref (ly_o y 1), .int x2, .int r22]) (rest := [.int x2, .int (30 : Int32), .ref (ly_o y 3)]) (st' := [.int r25, .int x2, .int (30 : Int32), .ref (ly_o y 3)]) (r := some (.int r25)) (M1 := M26) K (kX9_numberOf l K.2.2.2.2.2.2.1 hy hc24) (jg_S jl_X9_56 jw_t_X9_numberOf jw_n_X9 jw_c_X9_numberOf) rfl rfl rfl jd_X9_numberOf ⟨Nat.le_of_ble_eq_true rfl, Nat.le_of_ble_eq_true rfl⟩ rfl rfl (Nat.le_of_ble_eq_true rfl) dX9_take_101 rfl ?_
              obtain ⟨M29, hc27, hF⟩ := q_bvE hF
              refine v_callV (pc := 104) (ci := 8) (As := [.int (30 : Int32), .int x2, .int r25]) (rest := []) (st' := []) (r := none) (M1 := M29) K (kX9_add l K.2.2.2.2.2.2.1 hy hc27) (jg_V jl_X9_46 jw_i_X9_add jw_s_X9_add jw_n_X9 jw_c_X9_add) rfl rfl rfl jd_X9_add ⟨Nat.le_of_ble_eq_true rfl, Nat.le_of_ble_eq_true rfl⟩ rfl rfl (Nat.le_of_ble_eq_true rfl) (by decide) (okc_0 hy (by decide)) rfl dX9_take_104 rfl ?_
              refine v_iload (pc := 107) K dX9_take_107 0 rfl ?_
              refine v_istore_n (pc := 109) (lv' := [(2, .int r22), (5, .int r22), (4, .int r3), (0, .ref (ly_o y 3)), (1, .ref (ly_o y 1)), (3, .int x3)]) K dX9_take_109 2 rfl (by decide) rfl ?_
              refine v_goto (pc := 110) (tgt := 151) K dX9_take_110 (by decide) ?_
              refine v_sub [3, 4, 0, 5] rfl ?_
              exact bX9_take_151 l K hy hQ ih hF
          · refine v_aload_n (pc := 52) K dX9_take_52 2 rfl ?_
            refine v_iload_n (pc := 53) K dX9_take_53 3 rfl ?_
            obtain ⟨r32, M33, hc31, hF⟩ := q_bE hF
            refine v_callS (pc := 54) (As := [.ref (ly_o y 1), .int x2]) (rest := []) (st' := [.int r32]) (r := some (.int r32)) (M1 := M33) K (kX9_wordEnd l K.2.2.2.2.2.2.1 hy hc31) (jg_S jl_X9_38 jw_t_X9_wordEnd jw_n_X9 jw_c_X9_wordEnd) rfl rfl rfl jd_X9_wordEnd ⟨Nat.le_of_ble_eq_true rfl, Nat.le_of_ble_eq_true rfl⟩ rfl rfl (Nat.le_of_ble_eq_true rfl) dX9_take_54 rfl ?_
            refine v_istore (pc := 57) (lv' := [(5, .int r32), (4, .int r3), (0, .ref (ly_o y 3)), (1, .ref (ly_o y 1)), (2, .int x2), (3, .int x3)]) K 5 dX9_take_57 (by decide) rfl ?_
            refine v_aload_n (pc := 59) K dX9_take_59 2 rfl ?_
            refine v_aload_n (pc := 60) K dX9_take_60 3 rfl ?_
            refine v_iload_n (pc := 61) K dX9_take_61 4 rfl ?_
            refine v_iload (pc := 62) K dX9_take_62 0 rfl ?_
            obtain ⟨r35, M36, hc34, hF⟩ := q_bE hF
            refine v_callS (pc := 64) (As := [.ref (ly_o y 1), .int x2, .int r32]) (rest := [.ref (ly_o y 3)]) (st' := [.int r35, .ref (ly_o y 3)]) (r := some (.int r35)) (M1 := M36) K (kX9_wordOf l K.2.2.2.2.2.2.1 hy hc34) (jg_S jl_X9_42 jw_t_X9_wordOf jw_n_X9 jw_c_X9_wordOf) rfl rfl rfl jd_X9_wordOf ⟨Nat.le_of_ble_eq_true rfl, Nat.le_of_ble_eq_true rfl⟩ rfl rfl (Nat.le_of_ble_eq_true rfl) dX9_take_64 rfl ?_
            refine v_iload_n (pc := 67) K dX9_take_67 4 rfl ?_
            refine v_iconst (pc := 68) (v := 0) K dX9_take_68 rfl ?_
            obtain ⟨M39, hc37, hF⟩ := q_bvE hF
            refine v_callV (pc := 69) (ci := 8) (As := [.int r35, .int x2, .int (0 : Int32)]) (rest := []) (st' := []) (r := none) (M1 := M39) K (kX9_add l K.2.2.2.2.2.2.1 hy hc37) (jg_V jl_X9_46 jw_i_X9_add jw_s_X9_add jw_n_X9 jw_c_X9_add) rfl rfl rfl jd_X9_add ⟨Nat.le_of_ble_eq_true rfl, Nat.le_of_ble_eq_true rfl⟩ rfl rfl (Nat.le_of_ble_eq_true rfl) (by decide) (okc_0 hy (by decide)) rfl dX9_take_69 rfl ?_
            refine v_iload (pc := 72) K dX9_take_72 0 rfl ?_
            refine v_istore_n (pc := 74) (lv' := [(2, .int r32), (5, .int r32), (4, .int r3), (0, .ref (ly_o y 3)), (1, .ref (ly_o y 1)), (3, .int x3)]) K dX9_take_74 2 rfl (by decide) rfl ?_
            refine v_goto (pc := 75) (tgt := 151) K dX9_take_75 (by decide) ?_
            refine v_sub [3, 4, 0, 5] rfl ?_
            exact bX9_take_151 l K hy hQ ih hF
        · refine v_iinc (pc := 38) (v1 := x2 + (1 : Int32)) (lv' := [(2, .int (x2 + (1 : Int32))), (4, .int r3), (0, .ref (ly_o y 3)), (1, .ref (ly_o y 1)), (3, .int x3)]) K dX9_take_38 3 rfl rfl (by decide) rfl ?_
          refine v_goto (pc := 41) (tgt := 151) K dX9_take_41 (by decide) ?_
          refine v_sub [2, 3, 0, 4] rfl ?_
          exact bX9_take_151 l K hy hQ ih hF
def fX9_take (M : QM) : Option QM := (q_t (p_i M 3 3 (0 : Int32)) fun M1 => (fX9_take_b9 q_F M1 (0 : Int32) (0 : Int32)))
set_option maxRecDepth 100000 in
set_option maxHeartbeats 4000000 in
theorem bX9_take_0 {x : Cx} {y : Ly} (l : Launch) (K : VK x l rmX9_take y 6 cX9_take RX9 wqX9_take) (hy : y.2.2.2.2 = 0) {z : QM} (hQ : VQ x y none z none) {M : QM} (hF : fX9_take M  = some z) : V x y 6 M 0 [(0, .ref (ly_o y 3)), (1, .ref (ly_o y 1))] [] := by
  unfold fX9_take at hF
  refine v_aload_n (pc := 0) K dX9_take_0 0 rfl ?_
  refine v_iconst (pc := 1) (v := 0) K dX9_take_1 rfl ?_
  refine pX9_size (pc := 2) K hy (by decide) jn_X9 (List.mem_cons_of_mem _ jl_X9_21) dX9_take_2 ?_
  refine v_nmM hF (fun M1 hF => ?_)
  refine v_iconst (pc := 5) (v := 0) K dX9_take_5 rfl ?_
  refine v_istore_n (pc := 6) (lv' := [(2, .int (0 : Int32)), (0, .ref (ly_o y 3)), (1, .ref (ly_o y 1))]) K dX9_take_6 2 rfl (by decide) rfl ?_
  refine v_iconst (pc := 7) (v := 0) K dX9_take_7 rfl ?_
  refine v_istore_n (pc := 8) (lv' := [(3, .int (0 : Int32)), (2, .int (0 : Int32)), (0, .ref (ly_o y 3)), (1, .ref (ly_o y 1))]) K dX9_take_8 3 rfl (by decide) rfl ?_
  refine v_sub [2, 3, 1, 0] rfl ?_
  exact bX9_take_9 l K hy hQ q_F hF
set_option maxRecDepth 100000 in
set_option maxHeartbeats 4000000 in
theorem kX9_take (l : Launch) {y : Ly} (hJ : ly_J y) (hy : y.2.2.2.2 = 0) {M M1 : QM} (hF : fX9_take M  = some M1) : Met l yX9_take wqX9_take rmX9_take (q_P y [.ref (ly_o y 3), .ref (ly_o y 1)] M) (q_E y none M1) 0 0 (ly_A y) :=
  q_met (by decide) rfl hJ rfl rfl rfl (fun x K hQ => bX9_take_0 l K hy (z := M1) hQ  hF)
-- ===== X9_kindAt (I)I
theorem jd_X9_kindAt : yX9_kindAt.cls = RX9 ∧ yX9_kindAt.cls ≠ "java/lang/invoke/MethodHandle" ∧ yX9_kindAt.cls ≠ "java/lang/invoke/VarHandle" ∧ (parseMethodDescriptor yX9_kindAt.desc).map (fun d => d.parameters.length) = some 1 := by decide +kernel
abbrev wqX9_kindAt : List Cond := .code yX9_kindAt cX9_kindAt 2 (some .int) :: wsL_law
abbrev rmX9_kindAt : Room := { frames := 0, cells := 0, slots := 0, locals := 0 }
def fX9_kindAt (M : QM) (x1 : Int32) : Option (Int32 × QM) := if x1 < (0 : Int32) then some ((31 : Int32), M) else if (q_i M 3 3) ≤ x1 then some ((31 : Int32), M) else if (400 : Int32) < x1 then some ((31 : Int32), M) else (if q_in x1 401 then some (q_a M 3 0 x1.toNatClampNeg, M) else none)
set_option maxRecDepth 100000 in
set_option maxHeartbeats 4000000 in
theorem bX9_kindAt_0 {x : Cx} {y : Ly} (l : Launch) (K : VK x l rmX9_kindAt y 2 cX9_kindAt RX9 wqX9_kindAt) (hy : y.2.2.2.2 = 0) {z : Int32 × QM} (hQ : VQ x y (some (.int z.1)) z.2 (some .int)) {M : QM} {x1 : Int32} (hF : fX9_kindAt M x1 = some z) : V x y 2 M 0 [(0, .ref (ly_o y 3)), (1, .int x1)] [] := by
  unfold fX9_kindAt at hF
  refine v_iload_n (pc := 0) K dX9_kindAt_0 1 rfl ?_
  refine v_if_lt (pc := 1) (tgt := 28) K dX9_kindAt_1 (by decide) hF (fun c4 hF => ?_) (fun c4 hF => ?_)
  · refine v_bipush (pc := 28) (v := 31) K dX9_kindAt_28 rfl ?_
    have hz := (Option.some.inj hF).symm
    subst hz
    exact v_iret (pc := 30) K hQ dX9_kindAt_30
  · refine v_iload_n (pc := 4) K dX9_kindAt_4 1 rfl ?_
    refine v_aload_n (pc := 5) K dX9_kindAt_5 0 rfl ?_
    refine gX9_size (pc := 6) K hy (by decide) jn_X9 (List.mem_cons_of_mem _ jl_X9_21) dX9_kindAt_6 ?_
    refine v_icmp_ge (pc := 9) (tgt := 28) K dX9_kindAt_9 (by decide) hF (fun c3 hF => ?_) (fun c3 hF => ?_)
    · refine v_bipush (pc := 28) (v := 31) K dX9_kindAt_28 rfl ?_
      have hz := (Option.some.inj hF).symm
      subst hz
      exact v_iret (pc := 30) K hQ dX9_kindAt_30
    · refine v_iload_n (pc := 12) K dX9_kindAt_12 1 rfl ?_
      refine v_sipush (pc := 13) (v := 400) K dX9_kindAt_13 rfl ?_
      refine v_icmp_gt (pc := 16) (tgt := 28) K dX9_kindAt_16 (by decide) hF (fun c2 hF => ?_) (fun c2 hF => ?_)
      · refine v_bipush (pc := 28) (v := 31) K dX9_kindAt_28 rfl ?_
        have hz := (Option.some.inj hF).symm
        subst hz
        exact v_iret (pc := 30) K hQ dX9_kindAt_30
      · refine v_aload_n (pc := 19) K dX9_kindAt_19 0 rfl ?_
        refine gX9_kinds (pc := 20) K hy (by decide) jn_X9 (List.mem_cons_of_mem _ jl_X9_9) dX9_kindAt_20 ?_
        refine v_iload_n (pc := 23) K dX9_kindAt_23 1 rfl ?_
        refine iX9_kinds (pc := 24) K hy (by decide) hF dX9_kindAt_24 (fun hi1 hF => ?_)
        refine v_goto (pc := 25) (tgt := 30) K dX9_kindAt_25 (by decide) ?_
        have hz := (Option.some.inj hF).symm
        subst hz
        exact v_iret (pc := 30) K hQ dX9_kindAt_30
set_option maxRecDepth 100000 in
set_option maxHeartbeats 4000000 in
theorem kX9_kindAt (l : Launch) {y : Ly} (hJ : ly_J y) (hy : y.2.2.2.2 = 0) {M M1 : QM} {r : Int32} {x1 : Int32} (hF : fX9_kindAt M x1 = some (r, M1)) : Met l yX9_kindAt wqX9_kindAt rmX9_kindAt (q_P y [.ref (ly_o y 3), .int x1] M) (q_E y (some (.int r)) M1) 0 0 (ly_A y) :=
  q_met (by decide) rfl hJ rfl rfl rfl (fun x K hQ => bX9_kindAt_0 l K hy (z := (r, M1)) hQ  hF)
-- ===== X9_placeAt (I)I
theorem jd_X9_placeAt : yX9_placeAt.cls = RX9 ∧ yX9_placeAt.cls ≠ "java/lang/invoke/MethodHandle" ∧ yX9_placeAt.cls ≠ "java/lang/invoke/VarHandle" ∧ (parseMethodDescriptor yX9_placeAt.desc).map (fun d => d.parameters.length) = some 1 := by decide +kernel
abbrev wqX9_placeAt : List Cond := .code yX9_placeAt cX9_placeAt 2 (some .int) :: wsL_law
abbrev rmX9_placeAt : Room := { frames := 0, cells := 0, slots := 0, locals := 0 }
def fX9_placeAt (M : QM) (x1 : Int32) : Option (Int32 × QM) := if x1 < (0 : Int32) then some ((0 : Int32), M) else if (q_i M 3 3) ≤ x1 then some ((0 : Int32), M) else if (400 : Int32) < x1 then some ((0 : Int32), M) else (if q_in x1 401 then some (q_a M 3 1 x1.toNatClampNeg, M) else none)
set_option maxRecDepth 100000 in
set_option maxHeartbeats 4000000 in
theorem bX9_placeAt_0 {x : Cx} {y : Ly} (l : Launch) (K : VK x l rmX9_placeAt y 2 cX9_placeAt RX9 wqX9_placeAt) (hy : y.2.2.2.2 = 0) {z : Int32 × QM} (hQ : VQ x y (some (.int z.1)) z.2 (some .int)) {M : QM} {x1 : Int32} (hF : fX9_placeAt M x1 = some z) : V x y 2 M 0 [(0, .ref (ly_o y 3)), (1, .int x1)] [] := by
  unfold fX9_placeAt at hF
  refine v_iload_n (pc := 0) K dX9_placeAt_0 1 rfl ?_
  refine v_if_lt (pc := 1) (tgt := 28) K dX9_placeAt_1 (by decide) hF (fun c4 hF => ?_) (fun c4 hF => ?_)
  · refine v_iconst (pc := 28) (v := 0) K dX9_placeAt_28 rfl ?_
    have hz := (Option.some.inj hF).symm
    subst hz
    exact v_iret (pc := 29) K hQ dX9_placeAt_29
  · refine v_iload_n (pc := 4) K dX9_placeAt_4 1 rfl ?_
    refine v_aload_n (pc := 5) K dX9_placeAt_5 0 rfl ?_
    refine gX9_size (pc := 6) K hy (by decide) jn_X9 (List.mem_cons_of_mem _ jl_X9_21) dX9_placeAt_6 ?_
    refine v_icmp_ge (pc := 9) (tgt := 28) K dX9_placeAt_9 (by decide) hF (fun c3 hF => ?_) (fun c3 hF => ?_)
    · refine v_iconst (pc := 28) (v := 0) K dX9_placeAt_28 rfl ?_
      have hz := (Option.some.inj hF).symm
      subst hz
      exact v_iret (pc := 29) K hQ dX9_placeAt_29
    · refine v_iload_n (pc := 12) K dX9_placeAt_12 1 rfl ?_
      refine v_sipush (pc := 13) (v := 400) K dX9_placeAt_13 rfl ?_
      refine v_icmp_gt (pc := 16) (tgt := 28) K dX9_placeAt_16 (by decide) hF (fun c2 hF => ?_) (fun c2 hF => ?_)
      · refine v_iconst (pc := 28) (v := 0) K dX9_placeAt_28 rfl ?_
        have hz := (Option.some.inj hF).symm
        subst hz
        exact v_iret (pc := 29) K hQ dX9_placeAt_29
      · refine v_aload_n (pc := 19) K dX9_placeAt_19 0 rfl ?_
        refine gX9_places (pc := 20) K hy (by decide) jn_X9 (List.mem_cons_of_mem _ jl_X9_15) dX9_placeAt_20 ?_
        refine v_iload_n (pc := 23) K dX9_placeAt_23 1 rfl ?_
        refine iX9_places (pc := 24) K hy (by decide) hF dX9_placeAt_24 (fun hi1 hF => ?_)
        refine v_goto (pc := 25) (tgt := 29) K dX9_placeAt_25 (by decide) ?_
        have hz := (Option.some.inj hF).symm
        subst hz
        exact v_iret (pc := 29) K hQ dX9_placeAt_29
set_option maxRecDepth 100000 in
set_option maxHeartbeats 4000000 in
theorem kX9_placeAt (l : Launch) {y : Ly} (hJ : ly_J y) (hy : y.2.2.2.2 = 0) {M M1 : QM} {r : Int32} {x1 : Int32} (hF : fX9_placeAt M x1 = some (r, M1)) : Met l yX9_placeAt wqX9_placeAt rmX9_placeAt (q_P y [.ref (ly_o y 3), .int x1] M) (q_E y (some (.int r)) M1) 0 0 (ly_A y) :=
  q_met (by decide) rfl hJ rfl rfl rfl (fun x K hQ => bX9_placeAt_0 l K hy (z := (r, M1)) hQ  hF)
-- ===== X9_numberAt (I)I
theorem jd_X9_numberAt : yX9_numberAt.cls = RX9 ∧ yX9_numberAt.cls ≠ "java/lang/invoke/MethodHandle" ∧ yX9_numberAt.cls ≠ "java/lang/invoke/VarHandle" ∧ (parseMethodDescriptor yX9_numberAt.desc).map (fun d => d.parameters.length) = some 1 := by decide +kernel
abbrev wqX9_numberAt : List Cond := .code yX9_numberAt cX9_numberAt 2 (some .int) :: wsL_law
abbrev rmX9_numberAt : Room := { frames := 0, cells := 0, slots := 0, locals := 0 }
def fX9_numberAt (M : QM) (x1 : Int32) : Option (Int32 × QM) := if x1 < (0 : Int32) then some ((-1 : Int32), M) else if (q_i M 3 3) ≤ x1 then some ((-1 : Int32), M) else if (400 : Int32) < x1 then some ((-1 : Int32), M) else (if q_in x1 401 then some (q_a M 3 2 x1.toNatClampNeg, M) else none)
set_option maxRecDepth 100000 in
set_option maxHeartbeats 4000000 in
theorem bX9_numberAt_0 {x : Cx} {y : Ly} (l : Launch) (K : VK x l rmX9_numberAt y 2 cX9_numberAt RX9 wqX9_numberAt) (hy : y.2.2.2.2 = 0) {z : Int32 × QM} (hQ : VQ x y (some (.int z.1)) z.2 (some .int)) {M : QM} {x1 : Int32} (hF : fX9_numberAt M x1 = some z) : V x y 2 M 0 [(0, .ref (ly_o y 3)), (1, .int x1)] [] := by
  unfold fX9_numberAt at hF
  refine v_iload_n (pc := 0) K dX9_numberAt_0 1 rfl ?_
  refine v_if_lt (pc := 1) (tgt := 28) K dX9_numberAt_1 (by decide) hF (fun c4 hF => ?_) (fun c4 hF => ?_)
  · refine v_iconst (pc := 28) (v := -1) K dX9_numberAt_28 rfl ?_
    have hz := (Option.some.inj hF).symm
    subst hz
    exact v_iret (pc := 29) K hQ dX9_numberAt_29
  · refine v_iload_n (pc := 4) K dX9_numberAt_4 1 rfl ?_
    refine v_aload_n (pc := 5) K dX9_numberAt_5 0 rfl ?_
    refine gX9_size (pc := 6) K hy (by decide) jn_X9 (List.mem_cons_of_mem _ jl_X9_21) dX9_numberAt_6 ?_
    refine v_icmp_ge (pc := 9) (tgt := 28) K dX9_numberAt_9 (by decide) hF (fun c3 hF => ?_) (fun c3 hF => ?_)
    · refine v_iconst (pc := 28) (v := -1) K dX9_numberAt_28 rfl ?_
      have hz := (Option.some.inj hF).symm
      subst hz
      exact v_iret (pc := 29) K hQ dX9_numberAt_29
    · refine v_iload_n (pc := 12) K dX9_numberAt_12 1 rfl ?_
      refine v_sipush (pc := 13) (v := 400) K dX9_numberAt_13 rfl ?_
      refine v_icmp_gt (pc := 16) (tgt := 28) K dX9_numberAt_16 (by decide) hF (fun c2 hF => ?_) (fun c2 hF => ?_)
      · refine v_iconst (pc := 28) (v := -1) K dX9_numberAt_28 rfl ?_
        have hz := (Option.some.inj hF).symm
        subst hz
        exact v_iret (pc := 29) K hQ dX9_numberAt_29
      · refine v_aload_n (pc := 19) K dX9_numberAt_19 0 rfl ?_
        refine gX9_numbers (pc := 20) K hy (by decide) jn_X9 (List.mem_cons_of_mem _ jl_X9_18) dX9_numberAt_20 ?_
        refine v_iload_n (pc := 23) K dX9_numberAt_23 1 rfl ?_
        refine iX9_numbers (pc := 24) K hy (by decide) hF dX9_numberAt_24 (fun hi1 hF => ?_)
        refine v_goto (pc := 25) (tgt := 29) K dX9_numberAt_25 (by decide) ?_
        have hz := (Option.some.inj hF).symm
        subst hz
        exact v_iret (pc := 29) K hQ dX9_numberAt_29
set_option maxRecDepth 100000 in
set_option maxHeartbeats 4000000 in
theorem kX9_numberAt (l : Launch) {y : Ly} (hJ : ly_J y) (hy : y.2.2.2.2 = 0) {M M1 : QM} {r : Int32} {x1 : Int32} (hF : fX9_numberAt M x1 = some (r, M1)) : Met l yX9_numberAt wqX9_numberAt rmX9_numberAt (q_P y [.ref (ly_o y 3), .int x1] M) (q_E y (some (.int r)) M1) 0 0 (ly_A y) :=
  q_met (by decide) rfl hJ rfl rfl rfl (fun x K hQ => bX9_numberAt_0 l K hy (z := (r, M1)) hQ  hF)
