-- ===== X4_add (II)V
theorem jd_X4_add : yX4_add.cls = RX4 ∧ yX4_add.cls ≠ "java/lang/invoke/MethodHandle" ∧ yX4_add.cls ≠ "java/lang/invoke/VarHandle" ∧ (parseMethodDescriptor yX4_add.desc).map (fun d => d.parameters.length) = some 2 := by decide +kernel
abbrev wqX4_add : List Cond := .code yX4_add cX4_add 3 none :: wsL_law
abbrev rmX4_add : Room := { frames := 0, cells := 0, slots := 0, locals := 0 }
def fX4_add (M : QM) (o0 : Nat) (x1 : Int32) (x2 : Int32) : Option QM := if (q_i M o0 7) < (0 : Int32) then some M else if (9 : Int32) ≤ (q_i M o0 7) then some M else (if q_in (q_i M o0 7) 9 then (q_t (p_a M o0 0 (q_i M o0 7).toNatClampNeg x1) fun M2 => (if q_in (q_i M2 o0 7) 9 then (q_t (p_a M2 o0 1 (q_i M2 o0 7).toNatClampNeg x2) fun M4 => (q_t (p_i M4 o0 7 ((q_i M4 o0 7) + (1 : Int32))) fun M5 => some M5)) else none)) else none)
set_option maxRecDepth 100000 in
set_option maxHeartbeats 4000000 in
theorem bX4_add_0 {x : Cx} {y : Ly} (l : Launch) (K : VK x l rmX4_add y 3 cX4_add RX4 wqX4_add) (hy : y.2.2.2.2 = 0) {z : QM} (hQ : VQ x y none z none) {M : QM} {o0 : Nat} {x1 : Int32} {x2 : Int32} (ho0 : kls o0 = 4) (hF : fX4_add M o0 x1 x2 = some z) : V x y 3 M 0 [(0, .ref (ly_o y o0)), (1, .int x1), (2, .int x2)] [] := by
  unfold fX4_add at hF
  refine v_aload_n (pc := 0) K dX4_add_0 0 rfl ?_
  refine gX4_done (pc := 1) K hy ho0 jn_X4 (List.mem_cons_of_mem _ jl_X4_18) dX4_add_1 ?_
  refine v_if_lt (pc := 4) (tgt := 46) K dX4_add_4 (by decide) hF (fun c7 hF => ?_) (fun c7 hF => ?_)
  · have hz := (Option.some.inj hF).symm
    subst hz
    exact v_vret (pc := 46) K hQ dX4_add_46
  · refine v_aload_n (pc := 7) K dX4_add_7 0 rfl ?_
    refine gX4_done (pc := 8) K hy ho0 jn_X4 (List.mem_cons_of_mem _ jl_X4_18) dX4_add_8 ?_
    refine v_bipush (pc := 11) (v := 9) K dX4_add_11 rfl ?_
    refine v_icmp_ge (pc := 13) (tgt := 46) K dX4_add_13 (by decide) hF (fun c6 hF => ?_) (fun c6 hF => ?_)
    · have hz := (Option.some.inj hF).symm
      subst hz
      exact v_vret (pc := 46) K hQ dX4_add_46
    · refine v_aload_n (pc := 16) K dX4_add_16 0 rfl ?_
      refine gX4_moves (pc := 17) K hy ho0 jn_X4 (List.mem_cons_of_mem _ jl_X4_9) dX4_add_17 ?_
      refine v_aload_n (pc := 20) K dX4_add_20 0 rfl ?_
      refine gX4_done (pc := 21) K hy ho0 jn_X4 (List.mem_cons_of_mem _ jl_X4_18) dX4_add_21 ?_
      refine v_iload_n (pc := 24) K dX4_add_24 1 rfl ?_
      refine uX4_moves (pc := 25) K hy ho0 hF dX4_add_25 (fun hi1 hF => ?_)
      refine v_nmM hF (fun M2 hF => ?_)
      refine v_aload_n (pc := 26) K dX4_add_26 0 rfl ?_
      refine gX4_states (pc := 27) K hy ho0 jn_X4 (List.mem_cons_of_mem _ jl_X4_15) dX4_add_27 ?_
      refine v_aload_n (pc := 30) K dX4_add_30 0 rfl ?_
      refine gX4_done (pc := 31) K hy ho0 jn_X4 (List.mem_cons_of_mem _ jl_X4_18) dX4_add_31 ?_
      refine v_iload_n (pc := 34) K dX4_add_34 2 rfl ?_
      refine uX4_states (pc := 35) K hy ho0 hF dX4_add_35 (fun hi3 hF => ?_)
      refine v_nmM hF (fun M4 hF => ?_)
      refine v_aload_n (pc := 36) K dX4_add_36 0 rfl ?_
      refine v_dup (pc := 37) K dX4_add_37 rfl ?_
      refine gX4_done (pc := 38) K hy ho0 jn_X4 (List.mem_cons_of_mem _ jl_X4_18) dX4_add_38 ?_
      refine v_iconst (pc := 41) (v := 1) K dX4_add_41 rfl ?_
      refine v_iadd (pc := 42) K dX4_add_42 ?_
      refine pX4_done (pc := 43) K hy ho0 jn_X4 (List.mem_cons_of_mem _ jl_X4_18) dX4_add_43 ?_
      refine v_nmM hF (fun M5 hF => ?_)
      have hz := (Option.some.inj hF).symm
      subst hz
      exact v_vret (pc := 46) K hQ dX4_add_46
set_option maxRecDepth 100000 in
set_option maxHeartbeats 4000000 in
theorem kX4_add (l : Launch) {y : Ly} (hJ : ly_J y) (hy : y.2.2.2.2 = 0) {M M1 : QM} {o0 : Nat} {x1 : Int32} {x2 : Int32} (ho0 : kls o0 = 4) (hF : fX4_add M o0 x1 x2 = some M1) : Met l yX4_add wqX4_add rmX4_add (q_P y [.ref (ly_o y o0), .int x1, .int x2] M) (q_E y none M1) 0 0 (ly_A y) :=
  q_met (by decide) rfl hJ rfl rfl rfl (fun x K hQ => bX4_add_0 l K hy (z := M1) hQ ho0 hF)
-- ===== X4_moveAt (I)I
theorem jd_X4_moveAt : yX4_moveAt.cls = RX4 ∧ yX4_moveAt.cls ≠ "java/lang/invoke/MethodHandle" ∧ yX4_moveAt.cls ≠ "java/lang/invoke/VarHandle" ∧ (parseMethodDescriptor yX4_moveAt.desc).map (fun d => d.parameters.length) = some 1 := by decide +kernel
abbrev wqX4_moveAt : List Cond := .code yX4_moveAt cX4_moveAt 2 (some .int) :: wsL_law
abbrev rmX4_moveAt : Room := { frames := 0, cells := 0, slots := 0, locals := 0 }
def fX4_moveAt (M : QM) (o0 : Nat) (x1 : Int32) : Option (Int32 × QM) := if x1 < (0 : Int32) then some ((-1 : Int32), M) else if (q_i M o0 7) ≤ x1 then some ((-1 : Int32), M) else if (9 : Int32) ≤ x1 then some ((-1 : Int32), M) else (if q_in x1 9 then some (q_a M o0 0 x1.toNatClampNeg, M) else none)
set_option maxRecDepth 100000 in
set_option maxHeartbeats 4000000 in
theorem bX4_moveAt_0 {x : Cx} {y : Ly} (l : Launch) (K : VK x l rmX4_moveAt y 2 cX4_moveAt RX4 wqX4_moveAt) (hy : y.2.2.2.2 = 0) {z : Int32 × QM} (hQ : VQ x y (some (.int z.1)) z.2 (some .int)) {M : QM} {o0 : Nat} {x1 : Int32} (ho0 : kls o0 = 4) (hF : fX4_moveAt M o0 x1 = some z) : V x y 2 M 0 [(0, .ref (ly_o y o0)), (1, .int x1)] [] := by
  unfold fX4_moveAt at hF
  refine v_iload_n (pc := 0) K dX4_moveAt_0 1 rfl ?_
  refine v_if_lt (pc := 1) (tgt := 27) K dX4_moveAt_1 (by decide) hF (fun c4 hF => ?_) (fun c4 hF => ?_)
  · refine v_iconst (pc := 27) (v := -1) K dX4_moveAt_27 rfl ?_
    have hz := (Option.some.inj hF).symm
    subst hz
    exact v_iret (pc := 28) K hQ dX4_moveAt_28
  · refine v_iload_n (pc := 4) K dX4_moveAt_4 1 rfl ?_
    refine v_aload_n (pc := 5) K dX4_moveAt_5 0 rfl ?_
    refine gX4_done (pc := 6) K hy ho0 jn_X4 (List.mem_cons_of_mem _ jl_X4_18) dX4_moveAt_6 ?_
    refine v_icmp_ge (pc := 9) (tgt := 27) K dX4_moveAt_9 (by decide) hF (fun c3 hF => ?_) (fun c3 hF => ?_)
    · refine v_iconst (pc := 27) (v := -1) K dX4_moveAt_27 rfl ?_
      have hz := (Option.some.inj hF).symm
      subst hz
      exact v_iret (pc := 28) K hQ dX4_moveAt_28
    · refine v_iload_n (pc := 12) K dX4_moveAt_12 1 rfl ?_
      refine v_bipush (pc := 13) (v := 9) K dX4_moveAt_13 rfl ?_
      refine v_icmp_ge (pc := 15) (tgt := 27) K dX4_moveAt_15 (by decide) hF (fun c2 hF => ?_) (fun c2 hF => ?_)
      · refine v_iconst (pc := 27) (v := -1) K dX4_moveAt_27 rfl ?_
        have hz := (Option.some.inj hF).symm
        subst hz
        exact v_iret (pc := 28) K hQ dX4_moveAt_28
      · refine v_aload_n (pc := 18) K dX4_moveAt_18 0 rfl ?_
        refine gX4_moves (pc := 19) K hy ho0 jn_X4 (List.mem_cons_of_mem _ jl_X4_9) dX4_moveAt_19 ?_
        refine v_iload_n (pc := 22) K dX4_moveAt_22 1 rfl ?_
        refine iX4_moves (pc := 23) K hy ho0 hF dX4_moveAt_23 (fun hi1 hF => ?_)
        refine v_goto (pc := 24) (tgt := 28) K dX4_moveAt_24 (by decide) ?_
        have hz := (Option.some.inj hF).symm
        subst hz
        exact v_iret (pc := 28) K hQ dX4_moveAt_28
set_option maxRecDepth 100000 in
set_option maxHeartbeats 4000000 in
theorem kX4_moveAt (l : Launch) {y : Ly} (hJ : ly_J y) (hy : y.2.2.2.2 = 0) {M M1 : QM} {r : Int32} {o0 : Nat} {x1 : Int32} (ho0 : kls o0 = 4) (hF : fX4_moveAt M o0 x1 = some (r, M1)) : Met l yX4_moveAt wqX4_moveAt rmX4_moveAt (q_P y [.ref (ly_o y o0), .int x1] M) (q_E y (some (.int r)) M1) 0 0 (ly_A y) :=
  q_met (by decide) rfl hJ rfl rfl rfl (fun x K hQ => bX4_moveAt_0 l K hy (z := (r, M1)) hQ ho0 hF)
-- ===== X4_stateAt (I)I
theorem jd_X4_stateAt : yX4_stateAt.cls = RX4 ∧ yX4_stateAt.cls ≠ "java/lang/invoke/MethodHandle" ∧ yX4_stateAt.cls ≠ "java/lang/invoke/VarHandle" ∧ (parseMethodDescriptor yX4_stateAt.desc).map (fun d => d.parameters.length) = some 1 := by decide +kernel
abbrev wqX4_stateAt : List Cond := .code yX4_stateAt cX4_stateAt 2 (some .int) :: wsL_law
abbrev rmX4_stateAt : Room := { frames := 0, cells := 0, slots := 0, locals := 0 }
def fX4_stateAt (M : QM) (o0 : Nat) (x1 : Int32) : Option (Int32 × QM) := if x1 < (0 : Int32) then some ((0 : Int32), M) else if (q_i M o0 7) ≤ x1 then some ((0 : Int32), M) else if (9 : Int32) ≤ x1 then some ((0 : Int32), M) else (if q_in x1 9 then some (q_a M o0 1 x1.toNatClampNeg, M) else none)
set_option maxRecDepth 100000 in
set_option maxHeartbeats 4000000 in
theorem bX4_stateAt_0 {x : Cx} {y : Ly} (l : Launch) (K : VK x l rmX4_stateAt y 2 cX4_stateAt RX4 wqX4_stateAt) (hy : y.2.2.2.2 = 0) {z : Int32 × QM} (hQ : VQ x y (some (.int z.1)) z.2 (some .int)) {M : QM} {o0 : Nat} {x1 : Int32} (ho0 : kls o0 = 4) (hF : fX4_stateAt M o0 x1 = some z) : V x y 2 M 0 [(0, .ref (ly_o y o0)), (1, .int x1)] [] := by
  unfold fX4_stateAt at hF
  refine v_iload_n (pc := 0) K dX4_stateAt_0 1 rfl ?_
  refine v_if_lt (pc := 1) (tgt := 27) K dX4_stateAt_1 (by decide) hF (fun c4 hF => ?_) (fun c4 hF => ?_)
  · refine v_iconst (pc := 27) (v := 0) K dX4_stateAt_27 rfl ?_
    have hz := (Option.some.inj hF).symm
    subst hz
    exact v_iret (pc := 28) K hQ dX4_stateAt_28
  · refine v_iload_n (pc := 4) K dX4_stateAt_4 1 rfl ?_
    refine v_aload_n (pc := 5) K dX4_stateAt_5 0 rfl ?_
    refine gX4_done (pc := 6) K hy ho0 jn_X4 (List.mem_cons_of_mem _ jl_X4_18) dX4_stateAt_6 ?_
    refine v_icmp_ge (pc := 9) (tgt := 27) K dX4_stateAt_9 (by decide) hF (fun c3 hF => ?_) (fun c3 hF => ?_)
    · refine v_iconst (pc := 27) (v := 0) K dX4_stateAt_27 rfl ?_
      have hz := (Option.some.inj hF).symm
      subst hz
      exact v_iret (pc := 28) K hQ dX4_stateAt_28
    · refine v_iload_n (pc := 12) K dX4_stateAt_12 1 rfl ?_
      refine v_bipush (pc := 13) (v := 9) K dX4_stateAt_13 rfl ?_
      refine v_icmp_ge (pc := 15) (tgt := 27) K dX4_stateAt_15 (by decide) hF (fun c2 hF => ?_) (fun c2 hF => ?_)
      · refine v_iconst (pc := 27) (v := 0) K dX4_stateAt_27 rfl ?_
        have hz := (Option.some.inj hF).symm
        subst hz
        exact v_iret (pc := 28) K hQ dX4_stateAt_28
      · refine v_aload_n (pc := 18) K dX4_stateAt_18 0 rfl ?_
        refine gX4_states (pc := 19) K hy ho0 jn_X4 (List.mem_cons_of_mem _ jl_X4_15) dX4_stateAt_19 ?_
        refine v_iload_n (pc := 22) K dX4_stateAt_22 1 rfl ?_
        refine iX4_states (pc := 23) K hy ho0 hF dX4_stateAt_23 (fun hi1 hF => ?_)
        refine v_goto (pc := 24) (tgt := 28) K dX4_stateAt_24 (by decide) ?_
        have hz := (Option.some.inj hF).symm
        subst hz
        exact v_iret (pc := 28) K hQ dX4_stateAt_28
set_option maxRecDepth 100000 in
set_option maxHeartbeats 4000000 in
theorem kX4_stateAt (l : Launch) {y : Ly} (hJ : ly_J y) (hy : y.2.2.2.2 = 0) {M M1 : QM} {r : Int32} {o0 : Nat} {x1 : Int32} (ho0 : kls o0 = 4) (hF : fX4_stateAt M o0 x1 = some (r, M1)) : Met l yX4_stateAt wqX4_stateAt rmX4_stateAt (q_P y [.ref (ly_o y o0), .int x1] M) (q_E y (some (.int r)) M1) 0 0 (ly_A y) :=
  q_met (by decide) rfl hJ rfl rfl rfl (fun x K hQ => bX4_stateAt_0 l K hy (z := (r, M1)) hQ ho0 hF)
-- ===== X4_now ()I
theorem jd_X4_now : yX4_now.cls = RX4 ∧ yX4_now.cls ≠ "java/lang/invoke/MethodHandle" ∧ yX4_now.cls ≠ "java/lang/invoke/VarHandle" ∧ (parseMethodDescriptor yX4_now.desc).map (fun d => d.parameters.length) = some 0 := by decide +kernel
abbrev wqX4_now : List Cond := .code yX4_now cX4_now 1 (some .int) :: wsL_law
abbrev rmX4_now : Room := { frames := 1, cells := 0, slots := 0, locals := 21 }
def fX4_now (M : QM) (o0 : Nat) : Option (Int32 × QM) := (q_b (fX4_stateAt M o0 ((q_i M o0 7) - (1 : Int32))) fun r2 M3 => some (r2, M3))
set_option maxRecDepth 100000 in
set_option maxHeartbeats 4000000 in
theorem bX4_now_0 {x : Cx} {y : Ly} (l : Launch) (K : VK x l rmX4_now y 1 cX4_now RX4 wqX4_now) (hy : y.2.2.2.2 = 0) {z : Int32 × QM} (hQ : VQ x y (some (.int z.1)) z.2 (some .int)) {M : QM} {o0 : Nat} (ho0 : kls o0 = 4) (hF : fX4_now M o0 = some z) : V x y 1 M 0 [(0, .ref (ly_o y o0))] [] := by
  unfold fX4_now at hF
  refine v_aload_n (pc := 0) K dX4_now_0 0 rfl ?_
  refine v_aload_n (pc := 1) K dX4_now_1 0 rfl ?_
  refine gX4_done (pc := 2) K hy ho0 jn_X4 (List.mem_cons_of_mem _ jl_X4_18) dX4_now_2 ?_
  refine v_iconst (pc := 5) (v := 1) K dX4_now_5 rfl ?_
  refine v_isub (pc := 6) K dX4_now_6 ?_
  obtain ⟨r2, M3, hc1, hF⟩ := q_bE hF
  refine v_callV (pc := 7) (ci := 4) (As := [.int ((q_i M o0 7) - (1 : Int32))]) (rest := []) (st' := [.int r2]) (r := some (.int r2)) (M1 := M3) K (kX4_stateAt l K.2.2.2.2.2.2.1 hy ho0 hc1) (jg_V jl_X4_22 jw_i_X4_stateAt jw_s_X4_stateAt jw_n_X4 jw_c_X4_stateAt) rfl rfl rfl jd_X4_stateAt ⟨Nat.le_of_ble_eq_true rfl, Nat.le_of_ble_eq_true rfl⟩ rfl rfl (Nat.le_of_ble_eq_true rfl) ho0 (okc_0 hy (by decide)) rfl dX4_now_7 rfl ?_
  have hz := (Option.some.inj hF).symm
  subst hz
  exact v_iret (pc := 10) K hQ dX4_now_10
set_option maxRecDepth 100000 in
set_option maxHeartbeats 4000000 in
theorem kX4_now (l : Launch) {y : Ly} (hJ : ly_J y) (hy : y.2.2.2.2 = 0) {M M1 : QM} {r : Int32} {o0 : Nat} (ho0 : kls o0 = 4) (hF : fX4_now M o0 = some (r, M1)) : Met l yX4_now wqX4_now rmX4_now (q_P y [.ref (ly_o y o0)] M) (q_E y (some (.int r)) M1) 0 0 (ly_A y) :=
  q_met (by decide) rfl hJ rfl rfl rfl (fun x K hQ => bX4_now_0 l K hy (z := (r, M1)) hQ ho0 hF)
-- ===== X4_goesOn ()Z
theorem jd_X4_goesOn : yX4_goesOn.cls = RX4 ∧ yX4_goesOn.cls ≠ "java/lang/invoke/MethodHandle" ∧ yX4_goesOn.cls ≠ "java/lang/invoke/VarHandle" ∧ (parseMethodDescriptor yX4_goesOn.desc).map (fun d => d.parameters.length) = some 0 := by decide +kernel
abbrev wqX4_goesOn : List Cond := .code yX4_goesOn cX4_goesOn 1 (some .boolean) :: wsL_law
abbrev rmX4_goesOn : Room := { frames := 2, cells := 0, slots := 0, locals := 41 }
def fX4_goesOn (M : QM) (o0 : Nat) : Option (Int32 × QM) := (q_b (fX4_now M o0) fun r2 M3 => (q_b (fX7_ending M3 r2) fun r5 M6 => if r5 ≠ (0 : Int32) then some ((0 : Int32), M6) else some ((1 : Int32), M6)))
set_option maxRecDepth 100000 in
set_option maxHeartbeats 4000000 in
theorem bX4_goesOn_0 {x : Cx} {y : Ly} (l : Launch) (K : VK x l rmX4_goesOn y 1 cX4_goesOn RX4 wqX4_goesOn) (hy : y.2.2.2.2 = 0) {z : Int32 × QM} (hQ : VQ x y (some (.int z.1)) z.2 (some .boolean)) {M : QM} {o0 : Nat} (ho0 : kls o0 = 4) (hF : fX4_goesOn M o0 = some z) : V x y 1 M 0 [(0, .ref (ly_o y o0))] [] := by
  unfold fX4_goesOn at hF
  refine v_aload_n (pc := 0) K dX4_goesOn_0 0 rfl ?_
  obtain ⟨r2, M3, hc1, hF⟩ := q_bE hF
  refine v_callV (pc := 1) (ci := 4) (As := []) (rest := []) (st' := [.int r2]) (r := some (.int r2)) (M1 := M3) K (kX4_now l K.2.2.2.2.2.2.1 hy ho0 hc1) (jg_V jl_X4_26 jw_i_X4_now jw_s_X4_now jw_n_X4 jw_c_X4_now) rfl rfl rfl jd_X4_now ⟨Nat.le_of_ble_eq_true rfl, Nat.le_of_ble_eq_true rfl⟩ rfl rfl (Nat.le_of_ble_eq_true rfl) ho0 (okc_0 hy (by decide)) rfl dX4_goesOn_1 rfl ?_
  obtain ⟨r5, M6, hc4, hF⟩ := q_bE hF
  refine v_callS (pc := 4) (As := [.int r2]) (rest := []) (st' := [.int r5]) (r := some (.int r5)) (M1 := M6) K (kX7_ending l K.2.2.2.2.2.2.1 hy hc4) (jg_S jl_X4_30 jw_t_X7_ending jw_n_X7 jw_c_X7_ending) rfl rfl rfl jd_X7_ending ⟨Nat.le_of_ble_eq_true rfl, Nat.le_of_ble_eq_true rfl⟩ rfl rfl (Nat.le_of_ble_eq_true rfl) dX4_goesOn_4 rfl ?_
  refine v_if_ne (pc := 7) (tgt := 14) K dX4_goesOn_7 (by decide) hF (fun c7 hF => ?_) (fun c7 hF => ?_)
  · refine v_iconst (pc := 14) (v := 0) K dX4_goesOn_14 rfl ?_
    have hz := (Option.some.inj hF).symm
    subst hz
    exact v_zret (pc := 15) K hQ rfl dX4_goesOn_15
  · refine v_iconst (pc := 10) (v := 1) K dX4_goesOn_10 rfl ?_
    refine v_goto (pc := 11) (tgt := 15) K dX4_goesOn_11 (by decide) ?_
    have hz := (Option.some.inj hF).symm
    subst hz
    exact v_zret (pc := 15) K hQ rfl dX4_goesOn_15
set_option maxRecDepth 100000 in
set_option maxHeartbeats 4000000 in
theorem kX4_goesOn (l : Launch) {y : Ly} (hJ : ly_J y) (hy : y.2.2.2.2 = 0) {M M1 : QM} {r : Int32} {o0 : Nat} (ho0 : kls o0 = 4) (hF : fX4_goesOn M o0 = some (r, M1)) : Met l yX4_goesOn wqX4_goesOn rmX4_goesOn (q_P y [.ref (ly_o y o0)] M) (q_E y (some (.int r)) M1) 0 0 (ly_A y) :=
  q_met (by decide) rfl hJ rfl rfl rfl (fun x K hQ => bX4_goesOn_0 l K hy (z := (r, M1)) hQ ho0 hF)
-- ===== X4_sideOf (I)I
theorem jd_X4_sideOf : yX4_sideOf.cls = RX4 ∧ yX4_sideOf.cls ≠ "java/lang/invoke/MethodHandle" ∧ yX4_sideOf.cls ≠ "java/lang/invoke/VarHandle" ∧ (parseMethodDescriptor yX4_sideOf.desc).map (fun d => d.parameters.length) = some 1 := by decide +kernel
abbrev wqX4_sideOf : List Cond := .code yX4_sideOf cX4_sideOf 2 (some .int) :: wsL_law
abbrev rmX4_sideOf : Room := { frames := 0, cells := 0, slots := 0, locals := 0 }
def fX4_sideOf (M : QM) (o0 : Nat) (x1 : Int32) : Option (Int32 × QM) := if x1 ≠ (q_i M o0 2) then if x1 ≠ (q_i M o0 3) then some ((-1 : Int32), M) else some ((1 : Int32), M) else some ((0 : Int32), M)
set_option maxRecDepth 100000 in
set_option maxHeartbeats 4000000 in
theorem bX4_sideOf_0 {x : Cx} {y : Ly} (l : Launch) (K : VK x l rmX4_sideOf y 2 cX4_sideOf RX4 wqX4_sideOf) (hy : y.2.2.2.2 = 0) {z : Int32 × QM} (hQ : VQ x y (some (.int z.1)) z.2 (some .int)) {M : QM} {o0 : Nat} {x1 : Int32} (ho0 : kls o0 = 4) (hF : fX4_sideOf M o0 x1 = some z) : V x y 2 M 0 [(0, .ref (ly_o y o0)), (1, .int x1)] [] := by
  unfold fX4_sideOf at hF
  refine v_iload_n (pc := 0) K dX4_sideOf_0 1 rfl ?_
  refine v_aload_n (pc := 1) K dX4_sideOf_1 0 rfl ?_
  refine gX4_first (pc := 2) K hy ho0 jn_X4 (List.mem_cons_of_mem _ jl_X4_35) dX4_sideOf_2 ?_
  refine v_icmp_ne (pc := 5) (tgt := 12) K dX4_sideOf_5 (by decide) hF (fun c2 hF => ?_) (fun c2 hF => ?_)
  · refine v_iload_n (pc := 12) K dX4_sideOf_12 1 rfl ?_
    refine v_aload_n (pc := 13) K dX4_sideOf_13 0 rfl ?_
    refine gX4_second (pc := 14) K hy ho0 jn_X4 (List.mem_cons_of_mem _ jl_X4_38) dX4_sideOf_14 ?_
    refine v_icmp_ne (pc := 17) (tgt := 24) K dX4_sideOf_17 (by decide) hF (fun c1 hF => ?_) (fun c1 hF => ?_)
    · refine v_iconst (pc := 24) (v := -1) K dX4_sideOf_24 rfl ?_
      have hz := (Option.some.inj hF).symm
      subst hz
      exact v_iret (pc := 25) K hQ dX4_sideOf_25
    · refine v_iconst (pc := 20) (v := 1) K dX4_sideOf_20 rfl ?_
      refine v_goto (pc := 21) (tgt := 25) K dX4_sideOf_21 (by decide) ?_
      have hz := (Option.some.inj hF).symm
      subst hz
      exact v_iret (pc := 25) K hQ dX4_sideOf_25
  · refine v_iconst (pc := 8) (v := 0) K dX4_sideOf_8 rfl ?_
    refine v_goto (pc := 9) (tgt := 25) K dX4_sideOf_9 (by decide) ?_
    have hz := (Option.some.inj hF).symm
    subst hz
    exact v_iret (pc := 25) K hQ dX4_sideOf_25
set_option maxRecDepth 100000 in
set_option maxHeartbeats 4000000 in
theorem kX4_sideOf (l : Launch) {y : Ly} (hJ : ly_J y) (hy : y.2.2.2.2 = 0) {M M1 : QM} {r : Int32} {o0 : Nat} {x1 : Int32} (ho0 : kls o0 = 4) (hF : fX4_sideOf M o0 x1 = some (r, M1)) : Met l yX4_sideOf wqX4_sideOf rmX4_sideOf (q_P y [.ref (ly_o y o0), .int x1] M) (q_E y (some (.int r)) M1) 0 0 (ly_A y) :=
  q_met (by decide) rfl hJ rfl rfl rfl (fun x K hQ => bX4_sideOf_0 l K hy (z := (r, M1)) hQ ho0 hF)
-- ===== X4_personOn (I)I
theorem jd_X4_personOn : yX4_personOn.cls = RX4 ∧ yX4_personOn.cls ≠ "java/lang/invoke/MethodHandle" ∧ yX4_personOn.cls ≠ "java/lang/invoke/VarHandle" ∧ (parseMethodDescriptor yX4_personOn.desc).map (fun d => d.parameters.length) = some 1 := by decide +kernel
abbrev wqX4_personOn : List Cond := .code yX4_personOn cX4_personOn 2 (some .int) :: wsL_law
abbrev rmX4_personOn : Room := { frames := 0, cells := 0, slots := 0, locals := 0 }
def fX4_personOn (M : QM) (o0 : Nat) (x1 : Int32) : Option (Int32 × QM) := if x1 ≠ (0 : Int32) then some (q_i M o0 3, M) else some (q_i M o0 2, M)
set_option maxRecDepth 100000 in
set_option maxHeartbeats 4000000 in
theorem bX4_personOn_0 {x : Cx} {y : Ly} (l : Launch) (K : VK x l rmX4_personOn y 2 cX4_personOn RX4 wqX4_personOn) (hy : y.2.2.2.2 = 0) {z : Int32 × QM} (hQ : VQ x y (some (.int z.1)) z.2 (some .int)) {M : QM} {o0 : Nat} {x1 : Int32} (ho0 : kls o0 = 4) (hF : fX4_personOn M o0 x1 = some z) : V x y 2 M 0 [(0, .ref (ly_o y o0)), (1, .int x1)] [] := by
  unfold fX4_personOn at hF
  refine v_iload_n (pc := 0) K dX4_personOn_0 1 rfl ?_
  refine v_if_ne (pc := 1) (tgt := 11) K dX4_personOn_1 (by decide) hF (fun c1 hF => ?_) (fun c1 hF => ?_)
  · refine v_aload_n (pc := 11) K dX4_personOn_11 0 rfl ?_
    refine gX4_second (pc := 12) K hy ho0 jn_X4 (List.mem_cons_of_mem _ jl_X4_38) dX4_personOn_12 ?_
    have hz := (Option.some.inj hF).symm
    subst hz
    exact v_iret (pc := 15) K hQ dX4_personOn_15
  · refine v_aload_n (pc := 4) K dX4_personOn_4 0 rfl ?_
    refine gX4_first (pc := 5) K hy ho0 jn_X4 (List.mem_cons_of_mem _ jl_X4_35) dX4_personOn_5 ?_
    refine v_goto (pc := 8) (tgt := 15) K dX4_personOn_8 (by decide) ?_
    have hz := (Option.some.inj hF).symm
    subst hz
    exact v_iret (pc := 15) K hQ dX4_personOn_15
set_option maxRecDepth 100000 in
set_option maxHeartbeats 4000000 in
theorem kX4_personOn (l : Launch) {y : Ly} (hJ : ly_J y) (hy : y.2.2.2.2 = 0) {M M1 : QM} {r : Int32} {o0 : Nat} {x1 : Int32} (ho0 : kls o0 = 4) (hF : fX4_personOn M o0 x1 = some (r, M1)) : Met l yX4_personOn wqX4_personOn rmX4_personOn (q_P y [.ref (ly_o y o0), .int x1] M) (q_E y (some (.int r)) M1) 0 0 (ly_A y) :=
  q_met (by decide) rfl hJ rfl rfl rfl (fun x K hQ => bX4_personOn_0 l K hy (z := (r, M1)) hQ ho0 hF)
-- ===== X4_spoken ()I
theorem jd_X4_spoken : yX4_spoken.cls = RX4 ∧ yX4_spoken.cls ≠ "java/lang/invoke/MethodHandle" ∧ yX4_spoken.cls ≠ "java/lang/invoke/VarHandle" ∧ (parseMethodDescriptor yX4_spoken.desc).map (fun d => d.parameters.length) = some 0 := by decide +kernel
abbrev wqX4_spoken : List Cond := .code yX4_spoken cX4_spoken 3 (some .int) :: wsL_law
abbrev rmX4_spoken : Room := { frames := 0, cells := 0, slots := 0, locals := 0 }
def fX4_spoken_b35 (k4 : QM → Nat → Int32 → Int32 → Option (Int32 × QM)) (M : QM) (o0 : Nat) (x1 : Int32) (x2 : Int32) : Option (Int32 × QM) := (k4 M o0 x1 (x2 + (1 : Int32)))
set_option maxRecDepth 100000 in
set_option maxHeartbeats 4000000 in
theorem bX4_spoken_35 {x : Cx} {y : Ly} (l : Launch) (K : VK x l rmX4_spoken y 3 cX4_spoken RX4 wqX4_spoken) (hy : y.2.2.2.2 = 0) {z : Int32 × QM} (hQ : VQ x y (some (.int z.1)) z.2 (some .int)) {k4 : QM → Nat → Int32 → Int32 → Option (Int32 × QM)} (hk4 : ∀ {M : QM} {o0 : Nat} {x1 : Int32} {x2 : Int32}, kls o0 = 4 → k4 M o0 x1 x2 = some z → V x y 3 M 4 [(0, .ref (ly_o y o0)), (1, .int x1), (2, .int x2)] []) {M : QM} {o0 : Nat} {x1 : Int32} {x2 : Int32} (ho0 : kls o0 = 4) (hF : fX4_spoken_b35 k4 M o0 x1 x2 = some z) : V x y 3 M 35 [(0, .ref (ly_o y o0)), (1, .int x1), (2, .int x2)] [] := by
  unfold fX4_spoken_b35 at hF
  refine v_iinc (pc := 35) (v1 := x2 + (1 : Int32)) (lv' := [(2, .int (x2 + (1 : Int32))), (0, .ref (ly_o y o0)), (1, .int x1)]) K dX4_spoken_35 2 rfl rfl (by decide) rfl ?_
  refine v_goto (pc := 38) (tgt := 4) K dX4_spoken_38 (by decide) ?_
  refine v_sub [1, 2, 0] rfl ?_
  exact hk4 ho0 hF
def fX4_spoken_b4 : Nat → QM → Nat → Int32 → Int32 → Option (Int32 × QM)
  | 0, _, _, _, _ => none
  | q + 1, M, o0, x1, x2 => if (q_i M o0 7) ≤ x2 then some (x1, M) else if (9 : Int32) ≤ x2 then some (x1, M) else (if q_in x2 9 then if (8 : Int32) ≤ (q_a M o0 0 x2.toNatClampNeg) then (fX4_spoken_b35 (fun M o0 x1 x2 => fX4_spoken_b4 q M o0 x1 x2) M o0 x1 x2) else (fX4_spoken_b35 (fun M o0 x1 x2 => fX4_spoken_b4 q M o0 x1 x2) M o0 (x1 ||| ((1 : Int32) <<< (x2 &&& (31 : Int32)))) x2) else none)
set_option maxRecDepth 100000 in
set_option maxHeartbeats 4000000 in
theorem bX4_spoken_4 {x : Cx} {y : Ly} (l : Launch) (K : VK x l rmX4_spoken y 3 cX4_spoken RX4 wqX4_spoken) (hy : y.2.2.2.2 = 0) {z : Int32 × QM} (hQ : VQ x y (some (.int z.1)) z.2 (some .int)) : ∀ (q : Nat) {M : QM} {o0 : Nat} {x1 : Int32} {x2 : Int32}, kls o0 = 4 →  fX4_spoken_b4 q M o0 x1 x2 = some z → V x y 3 M 4 [(0, .ref (ly_o y o0)), (1, .int x1), (2, .int x2)] [] := by
  intro q
  induction q with
  | zero =>
    intro M o0 x1 x2 ho0 hF
    rw [fX4_spoken_b4] at hF
    cases hF
  | succ q ih =>
    intro M o0 x1 x2 ho0 hF
    rw [fX4_spoken_b4] at hF
    refine v_iload_n (pc := 4) K dX4_spoken_4 2 rfl ?_
    refine v_aload_n (pc := 5) K dX4_spoken_5 0 rfl ?_
    refine gX4_done (pc := 6) K hy ho0 jn_X4 (List.mem_cons_of_mem _ jl_X4_18) dX4_spoken_6 ?_
    refine v_icmp_ge (pc := 9) (tgt := 41) K dX4_spoken_9 (by decide) hF (fun c4 hF => ?_) (fun c4 hF => ?_)
    · refine v_iload_n (pc := 41) K dX4_spoken_41 1 rfl ?_
      have hz := (Option.some.inj hF).symm
      subst hz
      exact v_iret (pc := 42) K hQ dX4_spoken_42
    · refine v_iload_n (pc := 12) K dX4_spoken_12 2 rfl ?_
      refine v_bipush (pc := 13) (v := 9) K dX4_spoken_13 rfl ?_
      refine v_icmp_ge (pc := 15) (tgt := 41) K dX4_spoken_15 (by decide) hF (fun c3 hF => ?_) (fun c3 hF => ?_)
      · refine v_iload_n (pc := 41) K dX4_spoken_41 1 rfl ?_
        have hz := (Option.some.inj hF).symm
        subst hz
        exact v_iret (pc := 42) K hQ dX4_spoken_42
      · refine v_aload_n (pc := 18) K dX4_spoken_18 0 rfl ?_
        refine gX4_moves (pc := 19) K hy ho0 jn_X4 (List.mem_cons_of_mem _ jl_X4_9) dX4_spoken_19 ?_
        refine v_iload_n (pc := 22) K dX4_spoken_22 2 rfl ?_
        refine iX4_moves (pc := 23) K hy ho0 hF dX4_spoken_23 (fun hi1 hF => ?_)
        refine v_bipush (pc := 24) (v := 8) K dX4_spoken_24 rfl ?_
        refine v_icmp_ge (pc := 26) (tgt := 35) K dX4_spoken_26 (by decide) hF (fun c2 hF => ?_) (fun c2 hF => ?_)
        · exact bX4_spoken_35 l K hy hQ ih ho0 hF
        · refine v_iload_n (pc := 29) K dX4_spoken_29 1 rfl ?_
          refine v_iconst (pc := 30) (v := 1) K dX4_spoken_30 rfl ?_
          refine v_iload_n (pc := 31) K dX4_spoken_31 2 rfl ?_
          refine v_ishl (pc := 32) K dX4_spoken_32 ?_
          refine v_ior (pc := 33) K dX4_spoken_33 ?_
          refine v_istore_n (pc := 34) (lv' := [(1, .int (x1 ||| ((1 : Int32) <<< (x2 &&& (31 : Int32))))), (0, .ref (ly_o y o0)), (2, .int x2)]) K dX4_spoken_34 1 rfl (by decide) rfl ?_
          refine v_sub [1, 0, 2] rfl ?_
          exact bX4_spoken_35 l K hy hQ ih ho0 hF
def fX4_spoken (M : QM) (o0 : Nat) : Option (Int32 × QM) := (fX4_spoken_b4 q_F M o0 (0 : Int32) (0 : Int32))
set_option maxRecDepth 100000 in
set_option maxHeartbeats 4000000 in
theorem bX4_spoken_0 {x : Cx} {y : Ly} (l : Launch) (K : VK x l rmX4_spoken y 3 cX4_spoken RX4 wqX4_spoken) (hy : y.2.2.2.2 = 0) {z : Int32 × QM} (hQ : VQ x y (some (.int z.1)) z.2 (some .int)) {M : QM} {o0 : Nat} (ho0 : kls o0 = 4) (hF : fX4_spoken M o0 = some z) : V x y 3 M 0 [(0, .ref (ly_o y o0))] [] := by
  unfold fX4_spoken at hF
  refine v_iconst (pc := 0) (v := 0) K dX4_spoken_0 rfl ?_
  refine v_istore_n (pc := 1) (lv' := [(1, .int (0 : Int32)), (0, .ref (ly_o y o0))]) K dX4_spoken_1 1 rfl (by decide) rfl ?_
  refine v_iconst (pc := 2) (v := 0) K dX4_spoken_2 rfl ?_
  refine v_istore_n (pc := 3) (lv' := [(2, .int (0 : Int32)), (1, .int (0 : Int32)), (0, .ref (ly_o y o0))]) K dX4_spoken_3 2 rfl (by decide) rfl ?_
  refine v_sub [2, 1, 0] rfl ?_
  exact bX4_spoken_4 l K hy hQ q_F ho0 hF
set_option maxRecDepth 100000 in
set_option maxHeartbeats 4000000 in
theorem kX4_spoken (l : Launch) {y : Ly} (hJ : ly_J y) (hy : y.2.2.2.2 = 0) {M M1 : QM} {r : Int32} {o0 : Nat} (ho0 : kls o0 = 4) (hF : fX4_spoken M o0 = some (r, M1)) : Met l yX4_spoken wqX4_spoken rmX4_spoken (q_P y [.ref (ly_o y o0)] M) (q_E y (some (.int r)) M1) 0 0 (ly_A y) :=
  q_met (by decide) rfl hJ rfl rfl rfl (fun x K hQ => bX4_spoken_0 l K hy (z := (r, M1)) hQ ho0 hF)
-- ===== X4_copy (LTwoCards$Quarrel;)V
theorem jd_X4_copy : yX4_copy.cls = RX4 ∧ yX4_copy.cls ≠ "java/lang/invoke/MethodHandle" ∧ yX4_copy.cls ≠ "java/lang/invoke/VarHandle" ∧ (parseMethodDescriptor yX4_copy.desc).map (fun d => d.parameters.length) = some 1 := by decide +kernel
abbrev wqX4_copy : List Cond := .code yX4_copy cX4_copy 3 none :: wsL_law
abbrev rmX4_copy : Room := { frames := 0, cells := 0, slots := 0, locals := 0 }
def fX4_copy_b50 : Nat → QM → Nat → Nat → Int32 → Option QM
  | 0, _, _, _, _ => none
  | q + 1, M, o0, o1, x2 => if (9 : Int32) ≤ x2 then some M else (if q_in x2 9 then (if q_in x2 9 then (q_t (p_a M o0 0 x2.toNatClampNeg (q_a M o1 0 x2.toNatClampNeg)) fun M9 => (if q_in x2 9 then (if q_in x2 9 then (q_t (p_a M9 o0 1 x2.toNatClampNeg (q_a M9 o1 1 x2.toNatClampNeg)) fun M12 => (fX4_copy_b50 q M12 o0 o1 (x2 + (1 : Int32)))) else none) else none)) else none) else none)
set_option maxRecDepth 100000 in
set_option maxHeartbeats 4000000 in
theorem bX4_copy_50 {x : Cx} {y : Ly} (l : Launch) (K : VK x l rmX4_copy y 3 cX4_copy RX4 wqX4_copy) (hy : y.2.2.2.2 = 0) {z : QM} (hQ : VQ x y none z none) : ∀ (q : Nat) {M : QM} {o0 : Nat} {o1 : Nat} {x2 : Int32}, kls o0 = 4 → kls o1 = 4 →  fX4_copy_b50 q M o0 o1 x2 = some z → V x y 3 M 50 [(0, .ref (ly_o y o0)), (1, .ref (ly_o y o1)), (2, .int x2)] [] := by
  intro q
  induction q with
  | zero =>
    intro M o0 o1 x2 ho0 ho1 hF
    rw [fX4_copy_b50] at hF
    cases hF
  | succ q ih =>
    intro M o0 o1 x2 ho0 ho1 hF
    rw [fX4_copy_b50] at hF
    refine v_iload_n (pc := 50) K dX4_copy_50 2 rfl ?_
    refine v_bipush (pc := 51) (v := 9) K dX4_copy_51 rfl ?_
    refine v_icmp_ge (pc := 53) (tgt := 86) K dX4_copy_53 (by decide) hF (fun c13 hF => ?_) (fun c13 hF => ?_)
    · have hz := (Option.some.inj hF).symm
      subst hz
      exact v_vret (pc := 86) K hQ dX4_copy_86
    · refine v_aload_n (pc := 56) K dX4_copy_56 0 rfl ?_
      refine gX4_moves (pc := 57) K hy ho0 jn_X4 (List.mem_cons_of_mem _ jl_X4_9) dX4_copy_57 ?_
      refine v_iload_n (pc := 60) K dX4_copy_60 2 rfl ?_
      refine v_aload_n (pc := 61) K dX4_copy_61 1 rfl ?_
      refine gX4_moves (pc := 62) K hy ho1 jn_X4 (List.mem_cons_of_mem _ jl_X4_9) dX4_copy_62 ?_
      refine v_iload_n (pc := 65) K dX4_copy_65 2 rfl ?_
      refine iX4_moves (pc := 66) K hy ho1 hF dX4_copy_66 (fun hi7 hF => ?_)
      refine uX4_moves (pc := 67) K hy ho0 hF dX4_copy_67 (fun hi8 hF => ?_)
      refine v_nmM hF (fun M9 hF => ?_)
      refine v_aload_n (pc := 68) K dX4_copy_68 0 rfl ?_
      refine gX4_states (pc := 69) K hy ho0 jn_X4 (List.mem_cons_of_mem _ jl_X4_15) dX4_copy_69 ?_
      refine v_iload_n (pc := 72) K dX4_copy_72 2 rfl ?_
      refine v_aload_n (pc := 73) K dX4_copy_73 1 rfl ?_
      refine gX4_states (pc := 74) K hy ho1 jn_X4 (List.mem_cons_of_mem _ jl_X4_15) dX4_copy_74 ?_
      refine v_iload_n (pc := 77) K dX4_copy_77 2 rfl ?_
      refine iX4_states (pc := 78) K hy ho1 hF dX4_copy_78 (fun hi10 hF => ?_)
      refine uX4_states (pc := 79) K hy ho0 hF dX4_copy_79 (fun hi11 hF => ?_)
      refine v_nmM hF (fun M12 hF => ?_)
      refine v_iinc (pc := 80) (v1 := x2 + (1 : Int32)) (lv' := [(2, .int (x2 + (1 : Int32))), (0, .ref (ly_o y o0)), (1, .ref (ly_o y o1))]) K dX4_copy_80 2 rfl rfl (by decide) rfl ?_
      refine v_goto (pc := 83) (tgt := 50) K dX4_copy_83 (by decide) ?_
      refine v_sub [1, 2, 0] rfl ?_
      exact ih ho0 ho1 hF
def fX4_copy (M : QM) (o0 : Nat) (o1 : Nat) : Option QM := (q_t (p_i M o0 2 (q_i M o1 2)) fun M1 => (q_t (p_i M1 o0 3 (q_i M1 o1 3)) fun M2 => (q_t (p_i M2 o0 4 (q_i M2 o1 4)) fun M3 => (q_t (p_i M3 o0 5 (q_i M3 o1 5)) fun M4 => (q_t (p_i M4 o0 6 (q_i M4 o1 6)) fun M5 => (q_t (p_i M5 o0 7 (q_i M5 o1 7)) fun M6 => (fX4_copy_b50 q_F M6 o0 o1 (0 : Int32))))))))
set_option maxRecDepth 100000 in
set_option maxHeartbeats 4000000 in
theorem bX4_copy_0 {x : Cx} {y : Ly} (l : Launch) (K : VK x l rmX4_copy y 3 cX4_copy RX4 wqX4_copy) (hy : y.2.2.2.2 = 0) {z : QM} (hQ : VQ x y none z none) {M : QM} {o0 : Nat} {o1 : Nat} (ho0 : kls o0 = 4) (ho1 : kls o1 = 4) (hF : fX4_copy M o0 o1 = some z) : V x y 3 M 0 [(0, .ref (ly_o y o0)), (1, .ref (ly_o y o1))] [] := by
  unfold fX4_copy at hF
  refine v_aload_n (pc := 0) K dX4_copy_0 0 rfl ?_
  refine v_aload_n (pc := 1) K dX4_copy_1 1 rfl ?_
  refine gX4_first (pc := 2) K hy ho1 jn_X4 (List.mem_cons_of_mem _ jl_X4_35) dX4_copy_2 ?_
  refine pX4_first (pc := 5) K hy ho0 jn_X4 (List.mem_cons_of_mem _ jl_X4_35) dX4_copy_5 ?_
  refine v_nmM hF (fun M1 hF => ?_)
  refine v_aload_n (pc := 8) K dX4_copy_8 0 rfl ?_
  refine v_aload_n (pc := 9) K dX4_copy_9 1 rfl ?_
  refine gX4_second (pc := 10) K hy ho1 jn_X4 (List.mem_cons_of_mem _ jl_X4_38) dX4_copy_10 ?_
  refine pX4_second (pc := 13) K hy ho0 jn_X4 (List.mem_cons_of_mem _ jl_X4_38) dX4_copy_13 ?_
  refine v_nmM hF (fun M2 hF => ?_)
  refine v_aload_n (pc := 16) K dX4_copy_16 0 rfl ?_
  refine v_aload_n (pc := 17) K dX4_copy_17 1 rfl ?_
  refine gX4_firstCode (pc := 18) K hy ho1 jn_X4 (List.mem_cons_of_mem _ jl_X4_41) dX4_copy_18 ?_
  refine pX4_firstCode (pc := 21) K hy ho0 jn_X4 (List.mem_cons_of_mem _ jl_X4_41) dX4_copy_21 ?_
  refine v_nmM hF (fun M3 hF => ?_)
  refine v_aload_n (pc := 24) K dX4_copy_24 0 rfl ?_
  refine v_aload_n (pc := 25) K dX4_copy_25 1 rfl ?_
  refine gX4_secondCode (pc := 26) K hy ho1 jn_X4 (List.mem_cons_of_mem _ jl_X4_44) dX4_copy_26 ?_
  refine pX4_secondCode (pc := 29) K hy ho0 jn_X4 (List.mem_cons_of_mem _ jl_X4_44) dX4_copy_29 ?_
  refine v_nmM hF (fun M4 hF => ?_)
  refine v_aload_n (pc := 32) K dX4_copy_32 0 rfl ?_
  refine v_aload_n (pc := 33) K dX4_copy_33 1 rfl ?_
  refine gX4_ladies (pc := 34) K hy ho1 jn_X4 (List.mem_cons_of_mem _ jl_X4_47) dX4_copy_34 ?_
  refine pX4_ladies (pc := 37) K hy ho0 jn_X4 (List.mem_cons_of_mem _ jl_X4_47) dX4_copy_37 ?_
  refine v_nmM hF (fun M5 hF => ?_)
  refine v_aload_n (pc := 40) K dX4_copy_40 0 rfl ?_
  refine v_aload_n (pc := 41) K dX4_copy_41 1 rfl ?_
  refine gX4_done (pc := 42) K hy ho1 jn_X4 (List.mem_cons_of_mem _ jl_X4_18) dX4_copy_42 ?_
  refine pX4_done (pc := 45) K hy ho0 jn_X4 (List.mem_cons_of_mem _ jl_X4_18) dX4_copy_45 ?_
  refine v_nmM hF (fun M6 hF => ?_)
  refine v_iconst (pc := 48) (v := 0) K dX4_copy_48 rfl ?_
  refine v_istore_n (pc := 49) (lv' := [(2, .int (0 : Int32)), (0, .ref (ly_o y o0)), (1, .ref (ly_o y o1))]) K dX4_copy_49 2 rfl (by decide) rfl ?_
  refine v_sub [1, 2, 0] rfl ?_
  exact bX4_copy_50 l K hy hQ q_F ho0 ho1 hF
set_option maxRecDepth 100000 in
set_option maxHeartbeats 4000000 in
theorem kX4_copy (l : Launch) {y : Ly} (hJ : ly_J y) (hy : y.2.2.2.2 = 0) {M M1 : QM} {o0 : Nat} {o1 : Nat} (ho0 : kls o0 = 4) (ho1 : kls o1 = 4) (hF : fX4_copy M o0 o1 = some M1) : Met l yX4_copy wqX4_copy rmX4_copy (q_P y [.ref (ly_o y o0), .ref (ly_o y o1)] M) (q_E y none M1) 0 0 (ly_A y) :=
  q_met (by decide) rfl hJ rfl rfl rfl (fun x K hQ => bX4_copy_0 l K hy (z := M1) hQ ho0 ho1 hF)
