-- ===== X2_clear ()V
theorem jd_X2_clear : yX2_clear.cls = RX2 ∧ yX2_clear.cls ≠ "java/lang/invoke/MethodHandle" ∧ yX2_clear.cls ≠ "java/lang/invoke/VarHandle" ∧ (parseMethodDescriptor yX2_clear.desc).map (fun d => d.parameters.length) = some 0 := by decide +kernel
abbrev wqX2_clear : List Cond := .code yX2_clear cX2_clear 1 none :: wsL_law
abbrev rmX2_clear : Room := { frames := 0, cells := 0, slots := 0, locals := 0 }
def fX2_clear (M : QM) (o0 : Nat) : Option QM := (q_t (p_i M o0 7 (0 : Int32)) fun M1 => (q_t (p_i M1 o0 8 (0 : Int32)) fun M2 => (q_t (p_i M2 o0 9 (1 : Int32)) fun M3 => (q_t (p_i M3 o0 10 (6 : Int32)) fun M4 => (q_t (p_i M4 o0 11 (1 : Int32)) fun M5 => some M5)))))
set_option maxRecDepth 100000 in
set_option maxHeartbeats 4000000 in
theorem bX2_clear_0 {x : Cx} {y : Ly} (l : Launch) (K : VK x l rmX2_clear y 1 cX2_clear RX2 wqX2_clear) (hy : y.2.2.2.2 = 0) {z : QM} (hQ : VQ x y none z none) {M : QM} {o0 : Nat} (ho0 : kls o0 = 2) (hF : fX2_clear M o0 = some z) : V x y 1 M 0 [(0, .ref (ly_o y o0))] [] := by
  unfold fX2_clear at hF
  refine v_aload_n (pc := 0) K dX2_clear_0 0 rfl ?_
  refine v_iconst (pc := 1) (v := 0) K dX2_clear_1 rfl ?_
  refine pX2_stepCount (pc := 2) K hy ho0 jn_X2 (List.mem_cons_of_mem _ jl_X2_43) dX2_clear_2 ?_
  refine v_nmM hF (fun M1 hF => ?_)
  refine v_aload_n (pc := 5) K dX2_clear_5 0 rfl ?_
  refine v_iconst (pc := 6) (v := 0) K dX2_clear_6 rfl ?_
  refine pX2_clauses (pc := 7) K hy ho0 jn_X2 (List.mem_cons_of_mem _ jl_X2_46) dX2_clear_7 ?_
  refine v_nmM hF (fun M2 hF => ?_)
  refine v_aload_n (pc := 10) K dX2_clear_10 0 rfl ?_
  refine v_iconst (pc := 11) (v := 1) K dX2_clear_11 rfl ?_
  refine pX2_ask (pc := 12) K hy ho0 jn_X2 (List.mem_cons_of_mem _ jl_X2_33) dX2_clear_12 ?_
  refine v_nmM hF (fun M3 hF => ?_)
  refine v_aload_n (pc := 15) K dX2_clear_15 0 rfl ?_
  refine v_bipush (pc := 16) (v := 6) K dX2_clear_16 rfl ?_
  refine pX2_hours (pc := 18) K hy ho0 jn_X2 (List.mem_cons_of_mem _ jl_X2_37) dX2_clear_18 ?_
  refine v_nmM hF (fun M4 hF => ?_)
  refine v_aload_n (pc := 21) K dX2_clear_21 0 rfl ?_
  refine v_iconst (pc := 22) (v := 1) K dX2_clear_22 rfl ?_
  refine pX2_must (pc := 23) K hy ho0 jn_X2 (List.mem_cons_of_mem _ jl_X2_40) dX2_clear_23 ?_
  refine v_nmM hF (fun M5 hF => ?_)
  have hz := (Option.some.inj hF).symm
  subst hz
  exact v_vret (pc := 26) K hQ dX2_clear_26
set_option maxRecDepth 100000 in
set_option maxHeartbeats 4000000 in
theorem kX2_clear (l : Launch) {y : Ly} (hJ : ly_J y) (hy : y.2.2.2.2 = 0) {M M1 : QM} {o0 : Nat} (ho0 : kls o0 = 2) (hF : fX2_clear M o0 = some M1) : Met l yX2_clear wqX2_clear rmX2_clear (q_P y [.ref (ly_o y o0)] M) (q_E y none M1) 0 0 (ly_A y) :=
  q_met (by decide) rfl hJ rfl rfl rfl (fun x K hQ => bX2_clear_0 l K hy (z := M1) hQ ho0 hF)
-- ===== X2_addClause (III)V
theorem jd_X2_addClause : yX2_addClause.cls = RX2 ∧ yX2_addClause.cls ≠ "java/lang/invoke/MethodHandle" ∧ yX2_addClause.cls ≠ "java/lang/invoke/VarHandle" ∧ (parseMethodDescriptor yX2_addClause.desc).map (fun d => d.parameters.length) = some 3 := by decide +kernel
abbrev wqX2_addClause : List Cond := .code yX2_addClause cX2_addClause 4 none :: wsL_law
abbrev rmX2_addClause : Room := { frames := 0, cells := 0, slots := 0, locals := 0 }
def fX2_addClause (M : QM) (o0 : Nat) (x1 : Int32) (x2 : Int32) (x3 : Int32) : Option QM := if (14 : Int32) ≤ (q_i M o0 8) then some M else (if q_in (q_i M o0 8) 14 then (q_t (p_a M o0 0 (q_i M o0 8).toNatClampNeg x1) fun M2 => (if q_in (q_i M2 o0 8) 14 then (q_t (p_a M2 o0 1 (q_i M2 o0 8).toNatClampNeg x2) fun M4 => (if q_in (q_i M4 o0 8) 14 then (q_t (p_a M4 o0 2 (q_i M4 o0 8).toNatClampNeg x3) fun M6 => (if q_in (q_i M6 o0 8) 14 then (q_t (p_a M6 o0 3 (q_i M6 o0 8).toNatClampNeg (q_i M6 o0 7)) fun M8 => (if q_in (q_i M8 o0 8) 14 then (q_t (p_a M8 o0 4 (q_i M8 o0 8).toNatClampNeg (q_i M8 o0 7)) fun M10 => (q_t (p_i M10 o0 8 ((q_i M10 o0 8) + (1 : Int32))) fun M11 => some M11)) else none)) else none)) else none)) else none)) else none)
set_option maxRecDepth 100000 in
set_option maxHeartbeats 4000000 in
theorem bX2_addClause_0 {x : Cx} {y : Ly} (l : Launch) (K : VK x l rmX2_addClause y 4 cX2_addClause RX2 wqX2_addClause) (hy : y.2.2.2.2 = 0) {z : QM} (hQ : VQ x y none z none) {M : QM} {o0 : Nat} {x1 : Int32} {x2 : Int32} {x3 : Int32} (ho0 : kls o0 = 2) (hF : fX2_addClause M o0 x1 x2 x3 = some z) : V x y 4 M 0 [(0, .ref (ly_o y o0)), (1, .int x1), (2, .int x2), (3, .int x3)] [] := by
  unfold fX2_addClause at hF
  refine v_aload_n (pc := 0) K dX2_addClause_0 0 rfl ?_
  refine gX2_clauses (pc := 1) K hy ho0 jn_X2 (List.mem_cons_of_mem _ jl_X2_46) dX2_addClause_1 ?_
  refine v_bipush (pc := 4) (v := 14) K dX2_addClause_4 rfl ?_
  refine v_icmp_ge (pc := 6) (tgt := 75) K dX2_addClause_6 (by decide) hF (fun c12 hF => ?_) (fun c12 hF => ?_)
  · have hz := (Option.some.inj hF).symm
    subst hz
    exact v_vret (pc := 75) K hQ dX2_addClause_75
  · refine v_aload_n (pc := 9) K dX2_addClause_9 0 rfl ?_
    refine gX2_sorts (pc := 10) K hy ho0 jn_X2 (List.mem_cons_of_mem _ jl_X2_11) dX2_addClause_10 ?_
    refine v_aload_n (pc := 13) K dX2_addClause_13 0 rfl ?_
    refine gX2_clauses (pc := 14) K hy ho0 jn_X2 (List.mem_cons_of_mem _ jl_X2_46) dX2_addClause_14 ?_
    refine v_iload_n (pc := 17) K dX2_addClause_17 1 rfl ?_
    refine uX2_sorts (pc := 18) K hy ho0 hF dX2_addClause_18 (fun hi1 hF => ?_)
    refine v_nmM hF (fun M2 hF => ?_)
    refine v_aload_n (pc := 19) K dX2_addClause_19 0 rfl ?_
    refine gX2_kinds (pc := 20) K hy ho0 jn_X2 (List.mem_cons_of_mem _ jl_X2_15) dX2_addClause_20 ?_
    refine v_aload_n (pc := 23) K dX2_addClause_23 0 rfl ?_
    refine gX2_clauses (pc := 24) K hy ho0 jn_X2 (List.mem_cons_of_mem _ jl_X2_46) dX2_addClause_24 ?_
    refine v_iload_n (pc := 27) K dX2_addClause_27 2 rfl ?_
    refine uX2_kinds (pc := 28) K hy ho0 hF dX2_addClause_28 (fun hi3 hF => ?_)
    refine v_nmM hF (fun M4 hF => ?_)
    refine v_aload_n (pc := 29) K dX2_addClause_29 0 rfl ?_
    refine gX2_numbers (pc := 30) K hy ho0 jn_X2 (List.mem_cons_of_mem _ jl_X2_18) dX2_addClause_30 ?_
    refine v_aload_n (pc := 33) K dX2_addClause_33 0 rfl ?_
    refine gX2_clauses (pc := 34) K hy ho0 jn_X2 (List.mem_cons_of_mem _ jl_X2_46) dX2_addClause_34 ?_
    refine v_iload_n (pc := 37) K dX2_addClause_37 3 rfl ?_
    refine uX2_numbers (pc := 38) K hy ho0 hF dX2_addClause_38 (fun hi5 hF => ?_)
    refine v_nmM hF (fun M6 hF => ?_)
    refine v_aload_n (pc := 39) K dX2_addClause_39 0 rfl ?_
    refine gX2_starts (pc := 40) K hy ho0 jn_X2 (List.mem_cons_of_mem _ jl_X2_21) dX2_addClause_40 ?_
    refine v_aload_n (pc := 43) K dX2_addClause_43 0 rfl ?_
    refine gX2_clauses (pc := 44) K hy ho0 jn_X2 (List.mem_cons_of_mem _ jl_X2_46) dX2_addClause_44 ?_
    refine v_aload_n (pc := 47) K dX2_addClause_47 0 rfl ?_
    refine gX2_stepCount (pc := 48) K hy ho0 jn_X2 (List.mem_cons_of_mem _ jl_X2_43) dX2_addClause_48 ?_
    refine uX2_starts (pc := 51) K hy ho0 hF dX2_addClause_51 (fun hi7 hF => ?_)
    refine v_nmM hF (fun M8 hF => ?_)
    refine v_aload_n (pc := 52) K dX2_addClause_52 0 rfl ?_
    refine gX2_stops (pc := 53) K hy ho0 jn_X2 (List.mem_cons_of_mem _ jl_X2_24) dX2_addClause_53 ?_
    refine v_aload_n (pc := 56) K dX2_addClause_56 0 rfl ?_
    refine gX2_clauses (pc := 57) K hy ho0 jn_X2 (List.mem_cons_of_mem _ jl_X2_46) dX2_addClause_57 ?_
    refine v_aload_n (pc := 60) K dX2_addClause_60 0 rfl ?_
    refine gX2_stepCount (pc := 61) K hy ho0 jn_X2 (List.mem_cons_of_mem _ jl_X2_43) dX2_addClause_61 ?_
    refine uX2_stops (pc := 64) K hy ho0 hF dX2_addClause_64 (fun hi9 hF => ?_)
    refine v_nmM hF (fun M10 hF => ?_)
    refine v_aload_n (pc := 65) K dX2_addClause_65 0 rfl ?_
    refine v_dup (pc := 66) K dX2_addClause_66 rfl ?_
    refine gX2_clauses (pc := 67) K hy ho0 jn_X2 (List.mem_cons_of_mem _ jl_X2_46) dX2_addClause_67 ?_
    refine v_iconst (pc := 70) (v := 1) K dX2_addClause_70 rfl ?_
    refine v_iadd (pc := 71) K dX2_addClause_71 ?_
    refine pX2_clauses (pc := 72) K hy ho0 jn_X2 (List.mem_cons_of_mem _ jl_X2_46) dX2_addClause_72 ?_
    refine v_nmM hF (fun M11 hF => ?_)
    have hz := (Option.some.inj hF).symm
    subst hz
    exact v_vret (pc := 75) K hQ dX2_addClause_75
set_option maxRecDepth 100000 in
set_option maxHeartbeats 4000000 in
theorem kX2_addClause (l : Launch) {y : Ly} (hJ : ly_J y) (hy : y.2.2.2.2 = 0) {M M1 : QM} {o0 : Nat} {x1 : Int32} {x2 : Int32} {x3 : Int32} (ho0 : kls o0 = 2) (hF : fX2_addClause M o0 x1 x2 x3 = some M1) : Met l yX2_addClause wqX2_addClause rmX2_addClause (q_P y [.ref (ly_o y o0), .int x1, .int x2, .int x3] M) (q_E y none M1) 0 0 (ly_A y) :=
  q_met (by decide) rfl hJ rfl rfl rfl (fun x K hQ => bX2_addClause_0 l K hy (z := M1) hQ ho0 hF)
-- ===== X2_addStep (I)V
theorem jd_X2_addStep : yX2_addStep.cls = RX2 ∧ yX2_addStep.cls ≠ "java/lang/invoke/MethodHandle" ∧ yX2_addStep.cls ≠ "java/lang/invoke/VarHandle" ∧ (parseMethodDescriptor yX2_addStep.desc).map (fun d => d.parameters.length) = some 1 := by decide +kernel
abbrev wqX2_addStep : List Cond := .code yX2_addStep cX2_addStep 2 none :: wsL_law
abbrev rmX2_addStep : Room := { frames := 0, cells := 0, slots := 0, locals := 0 }
def fX2_addStep (M : QM) (o0 : Nat) (x1 : Int32) : Option QM := if (256 : Int32) ≤ (q_i M o0 7) then some M else if (q_i M o0 8) ≤ (0 : Int32) then some M else if (14 : Int32) < (q_i M o0 8) then some M else (if q_in (q_i M o0 7) 256 then (q_t (p_a M o0 5 (q_i M o0 7).toNatClampNeg x1) fun M2 => (q_t (p_i M2 o0 7 ((q_i M2 o0 7) + (1 : Int32))) fun M3 => (if q_in ((q_i M3 o0 8) - (1 : Int32)) 14 then (q_t (p_a M3 o0 4 ((q_i M3 o0 8) - (1 : Int32)).toNatClampNeg (q_i M3 o0 7)) fun M5 => some M5) else none))) else none)
set_option maxRecDepth 100000 in
set_option maxHeartbeats 4000000 in
theorem bX2_addStep_0 {x : Cx} {y : Ly} (l : Launch) (K : VK x l rmX2_addStep y 2 cX2_addStep RX2 wqX2_addStep) (hy : y.2.2.2.2 = 0) {z : QM} (hQ : VQ x y none z none) {M : QM} {o0 : Nat} {x1 : Int32} (ho0 : kls o0 = 2) (hF : fX2_addStep M o0 x1 = some z) : V x y 2 M 0 [(0, .ref (ly_o y o0)), (1, .int x1)] [] := by
  unfold fX2_addStep at hF
  refine v_aload_n (pc := 0) K dX2_addStep_0 0 rfl ?_
  refine gX2_stepCount (pc := 1) K hy ho0 jn_X2 (List.mem_cons_of_mem _ jl_X2_43) dX2_addStep_1 ?_
  refine v_sipush (pc := 4) (v := 256) K dX2_addStep_4 rfl ?_
  refine v_icmp_ge (pc := 7) (tgt := 61) K dX2_addStep_7 (by decide) hF (fun c8 hF => ?_) (fun c8 hF => ?_)
  · have hz := (Option.some.inj hF).symm
    subst hz
    exact v_vret (pc := 61) K hQ dX2_addStep_61
  · refine v_aload_n (pc := 10) K dX2_addStep_10 0 rfl ?_
    refine gX2_clauses (pc := 11) K hy ho0 jn_X2 (List.mem_cons_of_mem _ jl_X2_46) dX2_addStep_11 ?_
    refine v_if_le (pc := 14) (tgt := 61) K dX2_addStep_14 (by decide) hF (fun c7 hF => ?_) (fun c7 hF => ?_)
    · have hz := (Option.some.inj hF).symm
      subst hz
      exact v_vret (pc := 61) K hQ dX2_addStep_61
    · refine v_aload_n (pc := 17) K dX2_addStep_17 0 rfl ?_
      refine gX2_clauses (pc := 18) K hy ho0 jn_X2 (List.mem_cons_of_mem _ jl_X2_46) dX2_addStep_18 ?_
      refine v_bipush (pc := 21) (v := 14) K dX2_addStep_21 rfl ?_
      refine v_icmp_gt (pc := 23) (tgt := 61) K dX2_addStep_23 (by decide) hF (fun c6 hF => ?_) (fun c6 hF => ?_)
      · have hz := (Option.some.inj hF).symm
        subst hz
        exact v_vret (pc := 61) K hQ dX2_addStep_61
      · refine v_aload_n (pc := 26) K dX2_addStep_26 0 rfl ?_
        refine gX2_steps (pc := 27) K hy ho0 jn_X2 (List.mem_cons_of_mem _ jl_X2_27) dX2_addStep_27 ?_
        refine v_aload_n (pc := 30) K dX2_addStep_30 0 rfl ?_
        refine gX2_stepCount (pc := 31) K hy ho0 jn_X2 (List.mem_cons_of_mem _ jl_X2_43) dX2_addStep_31 ?_
        refine v_iload_n (pc := 34) K dX2_addStep_34 1 rfl ?_
        refine uX2_steps (pc := 35) K hy ho0 hF dX2_addStep_35 (fun hi1 hF => ?_)
        refine v_nmM hF (fun M2 hF => ?_)
        refine v_aload_n (pc := 36) K dX2_addStep_36 0 rfl ?_
        refine v_dup (pc := 37) K dX2_addStep_37 rfl ?_
        refine gX2_stepCount (pc := 38) K hy ho0 jn_X2 (List.mem_cons_of_mem _ jl_X2_43) dX2_addStep_38 ?_
        refine v_iconst (pc := 41) (v := 1) K dX2_addStep_41 rfl ?_
        refine v_iadd (pc := 42) K dX2_addStep_42 ?_
        refine pX2_stepCount (pc := 43) K hy ho0 jn_X2 (List.mem_cons_of_mem _ jl_X2_43) dX2_addStep_43 ?_
        refine v_nmM hF (fun M3 hF => ?_)
        refine v_aload_n (pc := 46) K dX2_addStep_46 0 rfl ?_
        refine gX2_stops (pc := 47) K hy ho0 jn_X2 (List.mem_cons_of_mem _ jl_X2_24) dX2_addStep_47 ?_
        refine v_aload_n (pc := 50) K dX2_addStep_50 0 rfl ?_
        refine gX2_clauses (pc := 51) K hy ho0 jn_X2 (List.mem_cons_of_mem _ jl_X2_46) dX2_addStep_51 ?_
        refine v_iconst (pc := 54) (v := 1) K dX2_addStep_54 rfl ?_
        refine v_isub (pc := 55) K dX2_addStep_55 ?_
        refine v_aload_n (pc := 56) K dX2_addStep_56 0 rfl ?_
        refine gX2_stepCount (pc := 57) K hy ho0 jn_X2 (List.mem_cons_of_mem _ jl_X2_43) dX2_addStep_57 ?_
        refine uX2_stops (pc := 60) K hy ho0 hF dX2_addStep_60 (fun hi4 hF => ?_)
        refine v_nmM hF (fun M5 hF => ?_)
        have hz := (Option.some.inj hF).symm
        subst hz
        exact v_vret (pc := 61) K hQ dX2_addStep_61
set_option maxRecDepth 100000 in
set_option maxHeartbeats 4000000 in
theorem kX2_addStep (l : Launch) {y : Ly} (hJ : ly_J y) (hy : y.2.2.2.2 = 0) {M M1 : QM} {o0 : Nat} {x1 : Int32} (ho0 : kls o0 = 2) (hF : fX2_addStep M o0 x1 = some M1) : Met l yX2_addStep wqX2_addStep rmX2_addStep (q_P y [.ref (ly_o y o0), .int x1] M) (q_E y none M1) 0 0 (ly_A y) :=
  q_met (by decide) rfl hJ rfl rfl rfl (fun x K hQ => bX2_addStep_0 l K hy (z := M1) hQ ho0 hF)
-- ===== X2_setMeasure (II)V
theorem jd_X2_setMeasure : yX2_setMeasure.cls = RX2 ∧ yX2_setMeasure.cls ≠ "java/lang/invoke/MethodHandle" ∧ yX2_setMeasure.cls ≠ "java/lang/invoke/VarHandle" ∧ (parseMethodDescriptor yX2_setMeasure.desc).map (fun d => d.parameters.length) = some 2 := by decide +kernel
abbrev wqX2_setMeasure : List Cond := .code yX2_setMeasure cX2_setMeasure 3 none :: wsL_law
abbrev rmX2_setMeasure : Room := { frames := 0, cells := 0, slots := 0, locals := 0 }
def fX2_setMeasure (M : QM) (o0 : Nat) (x1 : Int32) (x2 : Int32) : Option QM := if x1 = (3 : Int32) then (q_t (p_i M o0 9 x2) fun M2 => some M2) else if x1 = (4 : Int32) then (q_t (p_i M o0 10 x2) fun M4 => some M4) else if x1 = (5 : Int32) then (q_t (p_i M o0 11 x2) fun M6 => some M6) else some M
set_option maxRecDepth 100000 in
set_option maxHeartbeats 4000000 in
theorem bX2_setMeasure_0 {x : Cx} {y : Ly} (l : Launch) (K : VK x l rmX2_setMeasure y 3 cX2_setMeasure RX2 wqX2_setMeasure) (hy : y.2.2.2.2 = 0) {z : QM} (hQ : VQ x y none z none) {M : QM} {o0 : Nat} {x1 : Int32} {x2 : Int32} (ho0 : kls o0 = 2) (hF : fX2_setMeasure M o0 x1 x2 = some z) : V x y 3 M 0 [(0, .ref (ly_o y o0)), (1, .int x1), (2, .int x2)] [] := by
  unfold fX2_setMeasure at hF
  refine v_iload_n (pc := 0) K dX2_setMeasure_0 1 rfl ?_
  rcases q_iE hF with ⟨c1, hF⟩ | ⟨c1, hF⟩
  · refine v_tabE (pc := 1) (tgt := 28) (off := 27) K c1 dX2_setMeasure_1 (by decide) (by decide) (by decide +kernel) (by decide) ?_
    refine v_aload_n (pc := 28) K dX2_setMeasure_28 0 rfl ?_
    refine v_iload_n (pc := 29) K dX2_setMeasure_29 2 rfl ?_
    refine pX2_ask (pc := 30) K hy ho0 jn_X2 (List.mem_cons_of_mem _ jl_X2_33) dX2_setMeasure_30 ?_
    refine v_nmM hF (fun M2 hF => ?_)
    refine v_goto (pc := 33) (tgt := 52) K dX2_setMeasure_33 (by decide) ?_
    have hz := (Option.some.inj hF).symm
    subst hz
    exact v_vret (pc := 52) K hQ dX2_setMeasure_52
  rcases q_iE hF with ⟨c3, hF⟩ | ⟨c3, hF⟩
  · refine v_tabE (pc := 1) (tgt := 36) (off := 35) K c3 dX2_setMeasure_1 (by decide) (by decide) (by decide +kernel) (by decide) ?_
    refine v_aload_n (pc := 36) K dX2_setMeasure_36 0 rfl ?_
    refine v_iload_n (pc := 37) K dX2_setMeasure_37 2 rfl ?_
    refine pX2_hours (pc := 38) K hy ho0 jn_X2 (List.mem_cons_of_mem _ jl_X2_37) dX2_setMeasure_38 ?_
    refine v_nmM hF (fun M4 hF => ?_)
    refine v_goto (pc := 41) (tgt := 52) K dX2_setMeasure_41 (by decide) ?_
    have hz := (Option.some.inj hF).symm
    subst hz
    exact v_vret (pc := 52) K hQ dX2_setMeasure_52
  rcases q_iE hF with ⟨c5, hF⟩ | ⟨c5, hF⟩
  · refine v_tabE (pc := 1) (tgt := 44) (off := 43) K c5 dX2_setMeasure_1 (by decide) (by decide) (by decide +kernel) (by decide) ?_
    refine v_aload_n (pc := 44) K dX2_setMeasure_44 0 rfl ?_
    refine v_iload_n (pc := 45) K dX2_setMeasure_45 2 rfl ?_
    refine pX2_must (pc := 46) K hy ho0 jn_X2 (List.mem_cons_of_mem _ jl_X2_40) dX2_setMeasure_46 ?_
    refine v_nmM hF (fun M6 hF => ?_)
    refine v_goto (pc := 49) (tgt := 52) K dX2_setMeasure_49 (by decide) ?_
    have hz := (Option.some.inj hF).symm
    subst hz
    exact v_vret (pc := 52) K hQ dX2_setMeasure_52
  refine v_tabN (pc := 1) (tgt := 52) K dX2_setMeasure_1 (q_tn_3_5 c1 c3 c5) (by decide) ?_
  have hz := (Option.some.inj hF).symm
  subst hz
  exact v_vret (pc := 52) K hQ dX2_setMeasure_52
set_option maxRecDepth 100000 in
set_option maxHeartbeats 4000000 in
theorem kX2_setMeasure (l : Launch) {y : Ly} (hJ : ly_J y) (hy : y.2.2.2.2 = 0) {M M1 : QM} {o0 : Nat} {x1 : Int32} {x2 : Int32} (ho0 : kls o0 = 2) (hF : fX2_setMeasure M o0 x1 x2 = some M1) : Met l yX2_setMeasure wqX2_setMeasure rmX2_setMeasure (q_P y [.ref (ly_o y o0), .int x1, .int x2] M) (q_E y none M1) 0 0 (ly_A y) :=
  q_met (by decide) rfl hJ rfl rfl rfl (fun x K hQ => bX2_setMeasure_0 l K hy (z := M1) hQ ho0 hF)
-- ===== X2_has (I)Z
theorem jd_X2_has : yX2_has.cls = RX2 ∧ yX2_has.cls ≠ "java/lang/invoke/MethodHandle" ∧ yX2_has.cls ≠ "java/lang/invoke/VarHandle" ∧ (parseMethodDescriptor yX2_has.desc).map (fun d => d.parameters.length) = some 1 := by decide +kernel
abbrev wqX2_has : List Cond := .code yX2_has cX2_has 3 (some .boolean) :: wsL_law
abbrev rmX2_has : Room := { frames := 0, cells := 0, slots := 0, locals := 0 }
def fX2_has_b2 : Nat → QM → Nat → Int32 → Int32 → Option (Int32 × QM)
  | 0, _, _, _, _ => none
  | q + 1, M, o0, x1, x2 => if (q_i M o0 8) ≤ x2 then some ((0 : Int32), M) else if (14 : Int32) ≤ x2 then some ((0 : Int32), M) else (if q_in x2 14 then if (q_a M o0 0 x2.toNatClampNeg) ≠ x1 then (fX2_has_b2 q M o0 x1 (x2 + (1 : Int32))) else some ((1 : Int32), M) else none)
set_option maxRecDepth 100000 in
set_option maxHeartbeats 4000000 in
theorem bX2_has_2 {x : Cx} {y : Ly} (l : Launch) (K : VK x l rmX2_has y 3 cX2_has RX2 wqX2_has) (hy : y.2.2.2.2 = 0) {z : Int32 × QM} (hQ : VQ x y (some (.int z.1)) z.2 (some .boolean)) : ∀ (q : Nat) {M : QM} {o0 : Nat} {x1 : Int32} {x2 : Int32}, kls o0 = 2 →  fX2_has_b2 q M o0 x1 x2 = some z → V x y 3 M 2 [(0, .ref (ly_o y o0)), (1, .int x1), (2, .int x2)] [] := by
  intro q
  induction q with
  | zero =>
    intro M o0 x1 x2 ho0 hF
    rw [fX2_has_b2] at hF
    cases hF
  | succ q ih =>
    intro M o0 x1 x2 ho0 hF
    rw [fX2_has_b2] at hF
    refine v_iload_n (pc := 2) K dX2_has_2 2 rfl ?_
    refine v_aload_n (pc := 3) K dX2_has_3 0 rfl ?_
    refine gX2_clauses (pc := 4) K hy ho0 jn_X2 (List.mem_cons_of_mem _ jl_X2_46) dX2_has_4 ?_
    refine v_icmp_ge (pc := 7) (tgt := 34) K dX2_has_7 (by decide) hF (fun c4 hF => ?_) (fun c4 hF => ?_)
    · refine v_iconst (pc := 34) (v := 0) K dX2_has_34 rfl ?_
      have hz := (Option.some.inj hF).symm
      subst hz
      exact v_zret (pc := 35) K hQ rfl dX2_has_35
    · refine v_iload_n (pc := 10) K dX2_has_10 2 rfl ?_
      refine v_bipush (pc := 11) (v := 14) K dX2_has_11 rfl ?_
      refine v_icmp_ge (pc := 13) (tgt := 34) K dX2_has_13 (by decide) hF (fun c3 hF => ?_) (fun c3 hF => ?_)
      · refine v_iconst (pc := 34) (v := 0) K dX2_has_34 rfl ?_
        have hz := (Option.some.inj hF).symm
        subst hz
        exact v_zret (pc := 35) K hQ rfl dX2_has_35
      · refine v_aload_n (pc := 16) K dX2_has_16 0 rfl ?_
        refine gX2_sorts (pc := 17) K hy ho0 jn_X2 (List.mem_cons_of_mem _ jl_X2_11) dX2_has_17 ?_
        refine v_iload_n (pc := 20) K dX2_has_20 2 rfl ?_
        refine iX2_sorts (pc := 21) K hy ho0 hF dX2_has_21 (fun hi1 hF => ?_)
        refine v_iload_n (pc := 22) K dX2_has_22 1 rfl ?_
        refine v_icmp_ne (pc := 23) (tgt := 28) K dX2_has_23 (by decide) hF (fun c2 hF => ?_) (fun c2 hF => ?_)
        · refine v_iinc (pc := 28) (v1 := x2 + (1 : Int32)) (lv' := [(2, .int (x2 + (1 : Int32))), (0, .ref (ly_o y o0)), (1, .int x1)]) K dX2_has_28 2 rfl rfl (by decide) rfl ?_
          refine v_goto (pc := 31) (tgt := 2) K dX2_has_31 (by decide) ?_
          refine v_sub [1, 2, 0] rfl ?_
          exact ih ho0 hF
        · refine v_iconst (pc := 26) (v := 1) K dX2_has_26 rfl ?_
          have hz := (Option.some.inj hF).symm
          subst hz
          exact v_zret (pc := 27) K hQ rfl dX2_has_27
def fX2_has (M : QM) (o0 : Nat) (x1 : Int32) : Option (Int32 × QM) := (fX2_has_b2 q_F M o0 x1 (0 : Int32))
set_option maxRecDepth 100000 in
set_option maxHeartbeats 4000000 in
theorem bX2_has_0 {x : Cx} {y : Ly} (l : Launch) (K : VK x l rmX2_has y 3 cX2_has RX2 wqX2_has) (hy : y.2.2.2.2 = 0) {z : Int32 × QM} (hQ : VQ x y (some (.int z.1)) z.2 (some .boolean)) {M : QM} {o0 : Nat} {x1 : Int32} (ho0 : kls o0 = 2) (hF : fX2_has M o0 x1 = some z) : V x y 3 M 0 [(0, .ref (ly_o y o0)), (1, .int x1)] [] := by
  unfold fX2_has at hF
  refine v_iconst (pc := 0) (v := 0) K dX2_has_0 rfl ?_
  refine v_istore_n (pc := 1) (lv' := [(2, .int (0 : Int32)), (0, .ref (ly_o y o0)), (1, .int x1)]) K dX2_has_1 2 rfl (by decide) rfl ?_
  refine v_sub [1, 2, 0] rfl ?_
  exact bX2_has_2 l K hy hQ q_F ho0 hF
set_option maxRecDepth 100000 in
set_option maxHeartbeats 4000000 in
theorem kX2_has (l : Launch) {y : Ly} (hJ : ly_J y) (hy : y.2.2.2.2 = 0) {M M1 : QM} {r : Int32} {o0 : Nat} {x1 : Int32} (ho0 : kls o0 = 2) (hF : fX2_has M o0 x1 = some (r, M1)) : Met l yX2_has wqX2_has rmX2_has (q_P y [.ref (ly_o y o0), .int x1] M) (q_E y (some (.int r)) M1) 0 0 (ly_A y) :=
  q_met (by decide) rfl hJ rfl rfl rfl (fun x K hQ => bX2_has_0 l K hy (z := (r, M1)) hQ ho0 hF)
-- ===== X2_numberOf (I)I
theorem jd_X2_numberOf : yX2_numberOf.cls = RX2 ∧ yX2_numberOf.cls ≠ "java/lang/invoke/MethodHandle" ∧ yX2_numberOf.cls ≠ "java/lang/invoke/VarHandle" ∧ (parseMethodDescriptor yX2_numberOf.desc).map (fun d => d.parameters.length) = some 1 := by decide +kernel
abbrev wqX2_numberOf : List Cond := .code yX2_numberOf cX2_numberOf 2 (some .int) :: wsL_law
abbrev rmX2_numberOf : Room := { frames := 0, cells := 0, slots := 0, locals := 0 }
def fX2_numberOf (M : QM) (o0 : Nat) (x1 : Int32) : Option (Int32 × QM) := if x1 < (0 : Int32) then some ((0 : Int32), M) else if (14 : Int32) ≤ x1 then some ((0 : Int32), M) else (if q_in x1 14 then some (q_a M o0 2 x1.toNatClampNeg, M) else none)
set_option maxRecDepth 100000 in
set_option maxHeartbeats 4000000 in
theorem bX2_numberOf_0 {x : Cx} {y : Ly} (l : Launch) (K : VK x l rmX2_numberOf y 2 cX2_numberOf RX2 wqX2_numberOf) (hy : y.2.2.2.2 = 0) {z : Int32 × QM} (hQ : VQ x y (some (.int z.1)) z.2 (some .int)) {M : QM} {o0 : Nat} {x1 : Int32} (ho0 : kls o0 = 2) (hF : fX2_numberOf M o0 x1 = some z) : V x y 2 M 0 [(0, .ref (ly_o y o0)), (1, .int x1)] [] := by
  unfold fX2_numberOf at hF
  refine v_iload_n (pc := 0) K dX2_numberOf_0 1 rfl ?_
  refine v_if_lt (pc := 1) (tgt := 19) K dX2_numberOf_1 (by decide) hF (fun c3 hF => ?_) (fun c3 hF => ?_)
  · refine v_iconst (pc := 19) (v := 0) K dX2_numberOf_19 rfl ?_
    have hz := (Option.some.inj hF).symm
    subst hz
    exact v_iret (pc := 20) K hQ dX2_numberOf_20
  · refine v_iload_n (pc := 4) K dX2_numberOf_4 1 rfl ?_
    refine v_bipush (pc := 5) (v := 14) K dX2_numberOf_5 rfl ?_
    refine v_icmp_ge (pc := 7) (tgt := 19) K dX2_numberOf_7 (by decide) hF (fun c2 hF => ?_) (fun c2 hF => ?_)
    · refine v_iconst (pc := 19) (v := 0) K dX2_numberOf_19 rfl ?_
      have hz := (Option.some.inj hF).symm
      subst hz
      exact v_iret (pc := 20) K hQ dX2_numberOf_20
    · refine v_aload_n (pc := 10) K dX2_numberOf_10 0 rfl ?_
      refine gX2_numbers (pc := 11) K hy ho0 jn_X2 (List.mem_cons_of_mem _ jl_X2_18) dX2_numberOf_11 ?_
      refine v_iload_n (pc := 14) K dX2_numberOf_14 1 rfl ?_
      refine iX2_numbers (pc := 15) K hy ho0 hF dX2_numberOf_15 (fun hi1 hF => ?_)
      refine v_goto (pc := 16) (tgt := 20) K dX2_numberOf_16 (by decide) ?_
      have hz := (Option.some.inj hF).symm
      subst hz
      exact v_iret (pc := 20) K hQ dX2_numberOf_20
set_option maxRecDepth 100000 in
set_option maxHeartbeats 4000000 in
theorem kX2_numberOf (l : Launch) {y : Ly} (hJ : ly_J y) (hy : y.2.2.2.2 = 0) {M M1 : QM} {r : Int32} {o0 : Nat} {x1 : Int32} (ho0 : kls o0 = 2) (hF : fX2_numberOf M o0 x1 = some (r, M1)) : Met l yX2_numberOf wqX2_numberOf rmX2_numberOf (q_P y [.ref (ly_o y o0), .int x1] M) (q_E y (some (.int r)) M1) 0 0 (ly_A y) :=
  q_met (by decide) rfl hJ rfl rfl rfl (fun x K hQ => bX2_numberOf_0 l K hy (z := (r, M1)) hQ ho0 hF)
-- ===== X2_slotOf (I)I
theorem jd_X2_slotOf : yX2_slotOf.cls = RX2 ∧ yX2_slotOf.cls ≠ "java/lang/invoke/MethodHandle" ∧ yX2_slotOf.cls ≠ "java/lang/invoke/VarHandle" ∧ (parseMethodDescriptor yX2_slotOf.desc).map (fun d => d.parameters.length) = some 1 := by decide +kernel
abbrev wqX2_slotOf : List Cond := .code yX2_slotOf cX2_slotOf 3 (some .int) :: wsL_law
abbrev rmX2_slotOf : Room := { frames := 0, cells := 0, slots := 0, locals := 0 }
def fX2_slotOf_b16 (M : QM) (o0 : Nat) (x1 : Int32) (x2 : Int32) : Option (Int32 × QM) := (if q_in x1 14 then some ((x2 * (4 : Int32)) + (q_a M o0 1 x1.toNatClampNeg), M) else none)
set_option maxRecDepth 100000 in
set_option maxHeartbeats 4000000 in
theorem bX2_slotOf_16 {x : Cx} {y : Ly} (l : Launch) (K : VK x l rmX2_slotOf y 3 cX2_slotOf RX2 wqX2_slotOf) (hy : y.2.2.2.2 = 0) {z : Int32 × QM} (hQ : VQ x y (some (.int z.1)) z.2 (some .int)) {M : QM} {o0 : Nat} {x1 : Int32} {x2 : Int32} (ho0 : kls o0 = 2) (hF : fX2_slotOf_b16 M o0 x1 x2 = some z) : V x y 3 M 16 [(0, .ref (ly_o y o0)), (1, .int x1), (2, .int x2)] [] := by
  unfold fX2_slotOf_b16 at hF
  refine v_iload_n (pc := 16) K dX2_slotOf_16 2 rfl ?_
  refine v_iconst (pc := 17) (v := 4) K dX2_slotOf_17 rfl ?_
  refine v_imul (pc := 18) K dX2_slotOf_18 ?_
  refine v_aload_n (pc := 19) K dX2_slotOf_19 0 rfl ?_
  refine gX2_kinds (pc := 20) K hy ho0 jn_X2 (List.mem_cons_of_mem _ jl_X2_15) dX2_slotOf_20 ?_
  refine v_iload_n (pc := 23) K dX2_slotOf_23 1 rfl ?_
  refine iX2_kinds (pc := 24) K hy ho0 hF dX2_slotOf_24 (fun hi4 hF => ?_)
  refine v_iadd (pc := 25) K dX2_slotOf_25 ?_
  refine v_goto (pc := 26) (tgt := 31) K dX2_slotOf_26 (by decide) ?_
  have hz := (Option.some.inj hF).symm
  subst hz
  exact v_iret (pc := 31) K hQ dX2_slotOf_31
def fX2_slotOf (M : QM) (o0 : Nat) (x1 : Int32) : Option (Int32 × QM) := (if q_in x1 14 then if (q_a M o0 0 x1.toNatClampNeg) = (0 : Int32) then (fX2_slotOf_b16 M o0 x1 (q_a M o0 0 x1.toNatClampNeg)) else if (q_a M o0 0 x1.toNatClampNeg) ≠ (1 : Int32) then some ((8 : Int32), M) else (fX2_slotOf_b16 M o0 x1 (q_a M o0 0 x1.toNatClampNeg)) else none)
set_option maxRecDepth 100000 in
set_option maxHeartbeats 4000000 in
theorem bX2_slotOf_0 {x : Cx} {y : Ly} (l : Launch) (K : VK x l rmX2_slotOf y 3 cX2_slotOf RX2 wqX2_slotOf) (hy : y.2.2.2.2 = 0) {z : Int32 × QM} (hQ : VQ x y (some (.int z.1)) z.2 (some .int)) {M : QM} {o0 : Nat} {x1 : Int32} (ho0 : kls o0 = 2) (hF : fX2_slotOf M o0 x1 = some z) : V x y 3 M 0 [(0, .ref (ly_o y o0)), (1, .int x1)] [] := by
  unfold fX2_slotOf at hF
  refine v_aload_n (pc := 0) K dX2_slotOf_0 0 rfl ?_
  refine gX2_sorts (pc := 1) K hy ho0 jn_X2 (List.mem_cons_of_mem _ jl_X2_11) dX2_slotOf_1 ?_
  refine v_iload_n (pc := 4) K dX2_slotOf_4 1 rfl ?_
  refine iX2_sorts (pc := 5) K hy ho0 hF dX2_slotOf_5 (fun hi1 hF => ?_)
  refine v_istore_n (pc := 6) (lv' := [(2, .int (q_a M o0 0 x1.toNatClampNeg)), (0, .ref (ly_o y o0)), (1, .int x1)]) K dX2_slotOf_6 2 rfl (by decide) rfl ?_
  refine v_iload_n (pc := 7) K dX2_slotOf_7 0 rfl ?_
  refine v_if_eq (pc := 8) (tgt := 16) K dX2_slotOf_8 (by decide) hF (fun c3 hF => ?_) (fun c3 hF => ?_)
  · refine v_sub [1, 2, 0] rfl ?_
    exact bX2_slotOf_16 l K hy hQ ho0 hF
  · refine v_iload_n (pc := 11) K dX2_slotOf_11 0 rfl ?_
    refine v_iconst (pc := 12) (v := 1) K dX2_slotOf_12 rfl ?_
    refine v_icmp_ne (pc := 13) (tgt := 29) K dX2_slotOf_13 (by decide) hF (fun c2 hF => ?_) (fun c2 hF => ?_)
    · refine v_bipush (pc := 29) (v := 8) K dX2_slotOf_29 rfl ?_
      have hz := (Option.some.inj hF).symm
      subst hz
      exact v_iret (pc := 31) K hQ dX2_slotOf_31
    · refine v_sub [1, 2, 0] rfl ?_
      exact bX2_slotOf_16 l K hy hQ ho0 hF
set_option maxRecDepth 100000 in
set_option maxHeartbeats 4000000 in
theorem kX2_slotOf (l : Launch) {y : Ly} (hJ : ly_J y) (hy : y.2.2.2.2 = 0) {M M1 : QM} {r : Int32} {o0 : Nat} {x1 : Int32} (ho0 : kls o0 = 2) (hF : fX2_slotOf M o0 x1 = some (r, M1)) : Met l yX2_slotOf wqX2_slotOf rmX2_slotOf (q_P y [.ref (ly_o y o0), .int x1] M) (q_E y (some (.int r)) M1) 0 0 (ly_A y) :=
  q_met (by decide) rfl hJ rfl rfl rfl (fun x K hQ => bX2_slotOf_0 l K hy (z := (r, M1)) hQ ho0 hF)
-- ===== X2_joined (III)I
theorem jd_X2_joined : yX2_joined.cls ≠ "java/lang/invoke/MethodHandle" ∧ yX2_joined.cls ≠ "java/lang/invoke/VarHandle" ∧ (parseMethodDescriptor yX2_joined.desc).map (fun d => d.parameters.length) = some 3 := by decide +kernel
abbrev wqX2_joined : List Cond := .code yX2_joined cX2_joined 3 (some .int) :: wsL_law
abbrev rmX2_joined : Room := { frames := 0, cells := 0, slots := 0, locals := 0 }
def fX2_joined (M : QM) (x0 : Int32) (x1 : Int32) (x2 : Int32) : Option (Int32 × QM) := if x0 = (20000 : Int32) then some (x1 + x2, M) else if x0 = (20001 : Int32) then some (x1 - x2, M) else if x0 = (20002 : Int32) then if x2 ≤ x1 then some ((0 : Int32), M) else some ((1 : Int32), M) else if x0 = (20003 : Int32) then if x2 < x1 then some ((0 : Int32), M) else some ((1 : Int32), M) else if x0 = (20004 : Int32) then if x1 ≠ x2 then some ((0 : Int32), M) else some ((1 : Int32), M) else if x0 = (20005 : Int32) then if x1 < x2 then some ((0 : Int32), M) else some ((1 : Int32), M) else if x0 = (20006 : Int32) then if x1 ≤ x2 then some ((0 : Int32), M) else some ((1 : Int32), M) else if x0 = (20007 : Int32) then some ((0 : Int32), M) else if x0 = (20008 : Int32) then some (x1 &&& x2, M) else if x0 = (20009 : Int32) then some (x1 ||| x2, M) else some ((0 : Int32), M)
set_option maxRecDepth 100000 in
set_option maxHeartbeats 4000000 in
theorem bX2_joined_0 {x : Cx} {y : Ly} (l : Launch) (K : VK x l rmX2_joined y 3 cX2_joined RX2 wqX2_joined) (hy : y.2.2.2.2 = 0) {z : Int32 × QM} (hQ : VQ x y (some (.int z.1)) z.2 (some .int)) {M : QM} {x0 : Int32} {x1 : Int32} {x2 : Int32} (hF : fX2_joined M x0 x1 x2 = some z) : V x y 3 M 0 [(0, .int x0), (1, .int x1), (2, .int x2)] [] := by
  unfold fX2_joined at hF
  refine v_iload_n (pc := 0) K dX2_joined_0 0 rfl ?_
  rcases q_iE hF with ⟨c1, hF⟩ | ⟨c1, hF⟩
  · refine v_tabE (pc := 1) (tgt := 56) (off := 55) K c1 dX2_joined_1 (by decide) (by decide) (by decide +kernel) (by decide) ?_
    refine v_iload_n (pc := 56) K dX2_joined_56 1 rfl ?_
    refine v_iload_n (pc := 57) K dX2_joined_57 2 rfl ?_
    refine v_iadd (pc := 58) K dX2_joined_58 ?_
    have hz := (Option.some.inj hF).symm
    subst hz
    exact v_iret (pc := 59) K hQ dX2_joined_59
  rcases q_iE hF with ⟨c2, hF⟩ | ⟨c2, hF⟩
  · refine v_tabE (pc := 1) (tgt := 60) (off := 59) K c2 dX2_joined_1 (by decide) (by decide) (by decide +kernel) (by decide) ?_
    refine v_iload_n (pc := 60) K dX2_joined_60 1 rfl ?_
    refine v_iload_n (pc := 61) K dX2_joined_61 2 rfl ?_
    refine v_isub (pc := 62) K dX2_joined_62 ?_
    have hz := (Option.some.inj hF).symm
    subst hz
    exact v_iret (pc := 63) K hQ dX2_joined_63
  rcases q_iE hF with ⟨c3, hF⟩ | ⟨c3, hF⟩
  · refine v_tabE (pc := 1) (tgt := 64) (off := 63) K c3 dX2_joined_1 (by decide) (by decide) (by decide +kernel) (by decide) ?_
    refine v_iload_n (pc := 64) K dX2_joined_64 1 rfl ?_
    refine v_iload_n (pc := 65) K dX2_joined_65 2 rfl ?_
    refine v_icmp_ge (pc := 66) (tgt := 73) K dX2_joined_66 (by decide) hF (fun c4 hF => ?_) (fun c4 hF => ?_)
    · refine v_iconst (pc := 73) (v := 0) K dX2_joined_73 rfl ?_
      have hz := (Option.some.inj hF).symm
      subst hz
      exact v_iret (pc := 74) K hQ dX2_joined_74
    · refine v_iconst (pc := 69) (v := 1) K dX2_joined_69 rfl ?_
      refine v_goto (pc := 70) (tgt := 74) K dX2_joined_70 (by decide) ?_
      have hz := (Option.some.inj hF).symm
      subst hz
      exact v_iret (pc := 74) K hQ dX2_joined_74
  rcases q_iE hF with ⟨c5, hF⟩ | ⟨c5, hF⟩
  · refine v_tabE (pc := 1) (tgt := 75) (off := 74) K c5 dX2_joined_1 (by decide) (by decide) (by decide +kernel) (by decide) ?_
    refine v_iload_n (pc := 75) K dX2_joined_75 1 rfl ?_
    refine v_iload_n (pc := 76) K dX2_joined_76 2 rfl ?_
    refine v_icmp_gt (pc := 77) (tgt := 84) K dX2_joined_77 (by decide) hF (fun c6 hF => ?_) (fun c6 hF => ?_)
    · refine v_iconst (pc := 84) (v := 0) K dX2_joined_84 rfl ?_
      have hz := (Option.some.inj hF).symm
      subst hz
      exact v_iret (pc := 85) K hQ dX2_joined_85
    · refine v_iconst (pc := 80) (v := 1) K dX2_joined_80 rfl ?_
      refine v_goto (pc := 81) (tgt := 85) K dX2_joined_81 (by decide) ?_
      have hz := (Option.some.inj hF).symm
      subst hz
      exact v_iret (pc := 85) K hQ dX2_joined_85
  rcases q_iE hF with ⟨c7, hF⟩ | ⟨c7, hF⟩
  · refine v_tabE (pc := 1) (tgt := 86) (off := 85) K c7 dX2_joined_1 (by decide) (by decide) (by decide +kernel) (by decide) ?_
    refine v_iload_n (pc := 86) K dX2_joined_86 1 rfl ?_
    refine v_iload_n (pc := 87) K dX2_joined_87 2 rfl ?_
    refine v_icmp_ne (pc := 88) (tgt := 95) K dX2_joined_88 (by decide) hF (fun c8 hF => ?_) (fun c8 hF => ?_)
    · refine v_iconst (pc := 95) (v := 0) K dX2_joined_95 rfl ?_
      have hz := (Option.some.inj hF).symm
      subst hz
      exact v_iret (pc := 96) K hQ dX2_joined_96
    · refine v_iconst (pc := 91) (v := 1) K dX2_joined_91 rfl ?_
      refine v_goto (pc := 92) (tgt := 96) K dX2_joined_92 (by decide) ?_
      have hz := (Option.some.inj hF).symm
      subst hz
      exact v_iret (pc := 96) K hQ dX2_joined_96
  rcases q_iE hF with ⟨c9, hF⟩ | ⟨c9, hF⟩
  · refine v_tabE (pc := 1) (tgt := 97) (off := 96) K c9 dX2_joined_1 (by decide) (by decide) (by decide +kernel) (by decide) ?_
    refine v_iload_n (pc := 97) K dX2_joined_97 1 rfl ?_
    refine v_iload_n (pc := 98) K dX2_joined_98 2 rfl ?_
    refine v_icmp_lt (pc := 99) (tgt := 106) K dX2_joined_99 (by decide) hF (fun c10 hF => ?_) (fun c10 hF => ?_)
    · refine v_iconst (pc := 106) (v := 0) K dX2_joined_106 rfl ?_
      have hz := (Option.some.inj hF).symm
      subst hz
      exact v_iret (pc := 107) K hQ dX2_joined_107
    · refine v_iconst (pc := 102) (v := 1) K dX2_joined_102 rfl ?_
      refine v_goto (pc := 103) (tgt := 107) K dX2_joined_103 (by decide) ?_
      have hz := (Option.some.inj hF).symm
      subst hz
      exact v_iret (pc := 107) K hQ dX2_joined_107
  rcases q_iE hF with ⟨c11, hF⟩ | ⟨c11, hF⟩
  · refine v_tabE (pc := 1) (tgt := 108) (off := 107) K c11 dX2_joined_1 (by decide) (by decide) (by decide +kernel) (by decide) ?_
    refine v_iload_n (pc := 108) K dX2_joined_108 1 rfl ?_
    refine v_iload_n (pc := 109) K dX2_joined_109 2 rfl ?_
    refine v_icmp_le (pc := 110) (tgt := 117) K dX2_joined_110 (by decide) hF (fun c12 hF => ?_) (fun c12 hF => ?_)
    · refine v_iconst (pc := 117) (v := 0) K dX2_joined_117 rfl ?_
      have hz := (Option.some.inj hF).symm
      subst hz
      exact v_iret (pc := 118) K hQ dX2_joined_118
    · refine v_iconst (pc := 113) (v := 1) K dX2_joined_113 rfl ?_
      refine v_goto (pc := 114) (tgt := 118) K dX2_joined_114 (by decide) ?_
      have hz := (Option.some.inj hF).symm
      subst hz
      exact v_iret (pc := 118) K hQ dX2_joined_118
  rcases q_iE hF with ⟨c13, hF⟩ | ⟨c13, hF⟩
  · refine v_tabE (pc := 1) (tgt := 127) (off := 126) K c13 dX2_joined_1 (by decide) (by decide) (by decide +kernel) (by decide) ?_
    refine v_iconst (pc := 127) (v := 0) K dX2_joined_127 rfl ?_
    have hz := (Option.some.inj hF).symm
    subst hz
    exact v_iret (pc := 128) K hQ dX2_joined_128
  rcases q_iE hF with ⟨c14, hF⟩ | ⟨c14, hF⟩
  · refine v_tabE (pc := 1) (tgt := 119) (off := 118) K c14 dX2_joined_1 (by decide) (by decide) (by decide +kernel) (by decide) ?_
    refine v_iload_n (pc := 119) K dX2_joined_119 1 rfl ?_
    refine v_iload_n (pc := 120) K dX2_joined_120 2 rfl ?_
    refine v_iand (pc := 121) K dX2_joined_121 ?_
    have hz := (Option.some.inj hF).symm
    subst hz
    exact v_iret (pc := 122) K hQ dX2_joined_122
  rcases q_iE hF with ⟨c15, hF⟩ | ⟨c15, hF⟩
  · refine v_tabE (pc := 1) (tgt := 123) (off := 122) K c15 dX2_joined_1 (by decide) (by decide) (by decide +kernel) (by decide) ?_
    refine v_iload_n (pc := 123) K dX2_joined_123 1 rfl ?_
    refine v_iload_n (pc := 124) K dX2_joined_124 2 rfl ?_
    refine v_ior (pc := 125) K dX2_joined_125 ?_
    have hz := (Option.some.inj hF).symm
    subst hz
    exact v_iret (pc := 126) K hQ dX2_joined_126
  refine v_tabN (pc := 1) (tgt := 127) K dX2_joined_1 (q_tn_20000_20009 c1 c2 c3 c5 c7 c9 c11 c13 c14 c15) (by decide) ?_
  refine v_iconst (pc := 127) (v := 0) K dX2_joined_127 rfl ?_
  have hz := (Option.some.inj hF).symm
  subst hz
  exact v_iret (pc := 128) K hQ dX2_joined_128
set_option maxRecDepth 100000 in
set_option maxHeartbeats 4000000 in
theorem kX2_joined (l : Launch) {y : Ly} (hJ : ly_J y) (hy : y.2.2.2.2 = 0) {M M1 : QM} {r : Int32} {x0 : Int32} {x1 : Int32} {x2 : Int32} (hF : fX2_joined M x0 x1 x2 = some (r, M1)) : Met l yX2_joined wqX2_joined rmX2_joined (q_P y [.int x0, .int x1, .int x2] M) (q_E y (some (.int r)) M1) 0 0 (ly_A y) :=
  q_met (by decide) rfl hJ rfl rfl rfl (fun x K hQ => bX2_joined_0 l K hy (z := (r, M1)) hQ  hF)
-- ===== X2_holds (ILTwoCards$Sight;)Z
theorem jd_X2_holds : yX2_holds.cls = RX2 ∧ yX2_holds.cls ≠ "java/lang/invoke/MethodHandle" ∧ yX2_holds.cls ≠ "java/lang/invoke/VarHandle" ∧ (parseMethodDescriptor yX2_holds.desc).map (fun d => d.parameters.length) = some 2 := by decide +kernel
abbrev wqX2_holds : List Cond := .code yX2_holds cX2_holds 6 (some .boolean) :: wsL_law
abbrev rmX2_holds : Room := { frames := 1, cells := 0, slots := 0, locals := 22 }
def fX2_holds_b156 (k10 : QM → Nat → Int32 → Nat → Int32 → Int32 → Option (Int32 × QM)) (M : QM) (o0 : Nat) (x1 : Int32) (o2 : Nat) (x3 : Int32) (x4 : Int32) : Option (Int32 × QM) := (k10 M o0 x1 o2 x3 (x4 + (1 : Int32)))
set_option maxRecDepth 100000 in
set_option maxHeartbeats 4000000 in
theorem bX2_holds_156 {x : Cx} {y : Ly} (l : Launch) (K : VK x l rmX2_holds y 6 cX2_holds RX2 wqX2_holds) (hy : y.2.2.2.2 = 0) {z : Int32 × QM} (hQ : VQ x y (some (.int z.1)) z.2 (some .boolean)) {k10 : QM → Nat → Int32 → Nat → Int32 → Int32 → Option (Int32 × QM)} (hk10 : ∀ {M : QM} {o0 : Nat} {x1 : Int32} {o2 : Nat} {x3 : Int32} {x4 : Int32}, kls o0 = 2 → kls o2 = 6 → k10 M o0 x1 o2 x3 x4 = some z → V x y 6 M 10 [(0, .ref (ly_o y o0)), (1, .int x1), (2, .ref (ly_o y o2)), (3, .int x3), (4, .int x4)] []) {M : QM} {o0 : Nat} {x1 : Int32} {o2 : Nat} {x3 : Int32} {x4 : Int32} (ho0 : kls o0 = 2) (ho2 : kls o2 = 6) (hF : fX2_holds_b156 k10 M o0 x1 o2 x3 x4 = some z) : V x y 6 M 156 [(0, .ref (ly_o y o0)), (1, .int x1), (2, .ref (ly_o y o2)), (3, .int x3), (4, .int x4)] [] := by
  unfold fX2_holds_b156 at hF
  refine v_iinc (pc := 156) (v1 := x4 + (1 : Int32)) (lv' := [(4, .int (x4 + (1 : Int32))), (0, .ref (ly_o y o0)), (1, .int x1), (2, .ref (ly_o y o2)), (3, .int x3)]) K dX2_holds_156 4 rfl rfl (by decide) rfl ?_
  refine v_goto (pc := 159) (tgt := 10) K dX2_holds_159 (by decide) ?_
  refine v_sub [1, 2, 3, 4, 0] rfl ?_
  exact hk10 ho0 ho2 hF
def fX2_holds_b80 (k10 : QM → Nat → Int32 → Nat → Int32 → Int32 → Option (Int32 × QM)) (M : QM) (o0 : Nat) (x1 : Int32) (o2 : Nat) (x3 : Int32) (x4 : Int32) (s0 : Int32) (s1 : Int32) (so2 : Nat) : Option (Int32 × QM) := (if q_in s1 64 then (q_t (p_a M so2 6 s1.toNatClampNeg s0) fun M18 => (fX2_holds_b156 k10 M18 o0 x1 o2 (x3 + (1 : Int32)) x4)) else none)
set_option maxRecDepth 100000 in
set_option maxHeartbeats 4000000 in
theorem bX2_holds_80 {x : Cx} {y : Ly} (l : Launch) (K : VK x l rmX2_holds y 6 cX2_holds RX2 wqX2_holds) (hy : y.2.2.2.2 = 0) {z : Int32 × QM} (hQ : VQ x y (some (.int z.1)) z.2 (some .boolean)) {k10 : QM → Nat → Int32 → Nat → Int32 → Int32 → Option (Int32 × QM)} (hk10 : ∀ {M : QM} {o0 : Nat} {x1 : Int32} {o2 : Nat} {x3 : Int32} {x4 : Int32}, kls o0 = 2 → kls o2 = 6 → k10 M o0 x1 o2 x3 x4 = some z → V x y 6 M 10 [(0, .ref (ly_o y o0)), (1, .int x1), (2, .ref (ly_o y o2)), (3, .int x3), (4, .int x4)] []) {M : QM} {o0 : Nat} {x1 : Int32} {o2 : Nat} {x3 : Int32} {x4 : Int32} {s0 : Int32} {s1 : Int32} {so2 : Nat} (ho0 : kls o0 = 2) (ho2 : kls o2 = 6) (hso2 : kls so2 = 2) (hF : fX2_holds_b80 k10 M o0 x1 o2 x3 x4 s0 s1 so2 = some z) : V x y 6 M 80 [(0, .ref (ly_o y o0)), (1, .int x1), (2, .ref (ly_o y o2)), (3, .int x3), (4, .int x4)] [.int s0, .int s1, .ref (ly_a y so2 6)] := by
  unfold fX2_holds_b80 at hF
  refine uX2_stack (pc := 80) K hy hso2 hF dX2_holds_80 (fun hi17 hF => ?_)
  refine v_nmM hF (fun M18 hF => ?_)
  refine v_iinc (pc := 81) (v1 := x3 + (1 : Int32)) (lv' := [(3, .int (x3 + (1 : Int32))), (0, .ref (ly_o y o0)), (1, .int x1), (2, .ref (ly_o y o2)), (4, .int x4)]) K dX2_holds_81 3 rfl rfl (by decide) rfl ?_
  refine v_goto (pc := 84) (tgt := 156) K dX2_holds_84 (by decide) ?_
  refine v_sub [1, 2, 3, 0, 4] rfl ?_
  exact bX2_holds_156 l K hy hQ hk10 ho0 ho2 hF
def fX2_holds_b121 (k10 : QM → Nat → Int32 → Nat → Int32 → Int32 → Option (Int32 × QM)) (M : QM) (o0 : Nat) (x1 : Int32) (o2 : Nat) (x3 : Int32) (x4 : Int32) (x5 : Int32) : Option (Int32 × QM) := if x3 < (2 : Int32) then (fX2_holds_b156 k10 M o0 x1 o2 x3 x4) else (if q_in ((x3 + (-1 : Int32)) - (1 : Int32)) 64 then (if q_in (x3 + (-1 : Int32)) 64 then (q_b (fX2_joined M x5 (q_a M o0 6 ((x3 + (-1 : Int32)) - (1 : Int32)).toNatClampNeg) (q_a M o0 6 (x3 + (-1 : Int32)).toNatClampNeg)) fun r22 M23 => (if q_in ((x3 + (-1 : Int32)) - (1 : Int32)) 64 then (q_t (p_a M23 o0 6 ((x3 + (-1 : Int32)) - (1 : Int32)).toNatClampNeg r22) fun M25 => (fX2_holds_b156 k10 M25 o0 x1 o2 (x3 + (-1 : Int32)) x4)) else none)) else none) else none)
set_option maxRecDepth 100000 in
set_option maxHeartbeats 4000000 in
theorem bX2_holds_121 {x : Cx} {y : Ly} (l : Launch) (K : VK x l rmX2_holds y 6 cX2_holds RX2 wqX2_holds) (hy : y.2.2.2.2 = 0) {z : Int32 × QM} (hQ : VQ x y (some (.int z.1)) z.2 (some .boolean)) {k10 : QM → Nat → Int32 → Nat → Int32 → Int32 → Option (Int32 × QM)} (hk10 : ∀ {M : QM} {o0 : Nat} {x1 : Int32} {o2 : Nat} {x3 : Int32} {x4 : Int32}, kls o0 = 2 → kls o2 = 6 → k10 M o0 x1 o2 x3 x4 = some z → V x y 6 M 10 [(0, .ref (ly_o y o0)), (1, .int x1), (2, .ref (ly_o y o2)), (3, .int x3), (4, .int x4)] []) {M : QM} {o0 : Nat} {x1 : Int32} {o2 : Nat} {x3 : Int32} {x4 : Int32} {x5 : Int32} (ho0 : kls o0 = 2) (ho2 : kls o2 = 6) (hF : fX2_holds_b121 k10 M o0 x1 o2 x3 x4 x5 = some z) : V x y 6 M 121 [(0, .ref (ly_o y o0)), (1, .int x1), (2, .ref (ly_o y o2)), (3, .int x3), (4, .int x4), (5, .int x5)] [] := by
  unfold fX2_holds_b121 at hF
  refine v_iload_n (pc := 121) K dX2_holds_121 3 rfl ?_
  refine v_iconst (pc := 122) (v := 2) K dX2_holds_122 rfl ?_
  refine v_icmp_lt (pc := 123) (tgt := 156) K dX2_holds_123 (by decide) hF (fun c26 hF => ?_) (fun c26 hF => ?_)
  · refine v_sub [0, 1, 2, 3, 4] rfl ?_
    exact bX2_holds_156 l K hy hQ hk10 ho0 ho2 hF
  · refine v_iinc (pc := 126) (v1 := x3 + (-1 : Int32)) (lv' := [(3, .int (x3 + (-1 : Int32))), (0, .ref (ly_o y o0)), (1, .int x1), (2, .ref (ly_o y o2)), (4, .int x4), (5, .int x5)]) K dX2_holds_126 3 rfl rfl (by decide) rfl ?_
    refine v_aload_n (pc := 129) K dX2_holds_129 1 rfl ?_
    refine gX2_stack (pc := 130) K hy ho0 jn_X2 (List.mem_cons_of_mem _ jl_X2_30) dX2_holds_130 ?_
    refine v_iload_n (pc := 133) K dX2_holds_133 0 rfl ?_
    refine v_iconst (pc := 134) (v := 1) K dX2_holds_134 rfl ?_
    refine v_isub (pc := 135) K dX2_holds_135 ?_
    refine v_iload (pc := 136) K dX2_holds_136 5 rfl ?_
    refine v_aload_n (pc := 138) K dX2_holds_138 1 rfl ?_
    refine gX2_stack (pc := 139) K hy ho0 jn_X2 (List.mem_cons_of_mem _ jl_X2_30) dX2_holds_139 ?_
    refine v_iload_n (pc := 142) K dX2_holds_142 0 rfl ?_
    refine v_iconst (pc := 143) (v := 1) K dX2_holds_143 rfl ?_
    refine v_isub (pc := 144) K dX2_holds_144 ?_
    refine iX2_stack (pc := 145) K hy ho0 hF dX2_holds_145 (fun hi19 hF => ?_)
    refine v_aload_n (pc := 146) K dX2_holds_146 1 rfl ?_
    refine gX2_stack (pc := 147) K hy ho0 jn_X2 (List.mem_cons_of_mem _ jl_X2_30) dX2_holds_147 ?_
    refine v_iload_n (pc := 150) K dX2_holds_150 0 rfl ?_
    refine iX2_stack (pc := 151) K hy ho0 hF dX2_holds_151 (fun hi20 hF => ?_)
    obtain ⟨r22, M23, hc21, hF⟩ := q_bE hF
    refine v_callS (pc := 152) (As := [.int x5, .int (q_a M o0 6 ((x3 + (-1 : Int32)) - (1 : Int32)).toNatClampNeg), .int (q_a M o0 6 (x3 + (-1 : Int32)).toNatClampNeg)]) (rest := [.int ((x3 + (-1 : Int32)) - (1 : Int32)), .ref (ly_a y o0 6)]) (st' := [.int r22, .int ((x3 + (-1 : Int32)) - (1 : Int32)), .ref (ly_a y o0 6)]) (r := some (.int r22)) (M1 := M23) K (kX2_joined l K.2.2.2.2.2.2.1 hy hc21) (jg_S jl_X2_62 jw_t_X2_joined jw_n_X2 jw_c_X2_joined) rfl rfl rfl jd_X2_joined ⟨Nat.le_of_ble_eq_true rfl, Nat.le_of_ble_eq_true rfl⟩ rfl rfl (Nat.le_of_ble_eq_true rfl) dX2_holds_152 rfl ?_
    refine uX2_stack (pc := 155) K hy ho0 hF dX2_holds_155 (fun hi24 hF => ?_)
    refine v_nmM hF (fun M25 hF => ?_)
    refine v_sub [1, 2, 3, 0, 4] rfl ?_
    exact bX2_holds_156 l K hy hQ hk10 ho0 ho2 hF
def fX2_holds_b162 (M : QM) (o0 : Nat) (x3 : Int32) : Option (Int32 × QM) := if x3 = (0 : Int32) then some ((1 : Int32), M) else (if q_in (0 : Int32) 64 then if (q_a M o0 6 (0 : Int32).toNatClampNeg) = (0 : Int32) then some ((0 : Int32), M) else some ((1 : Int32), M) else none)
set_option maxRecDepth 100000 in
set_option maxHeartbeats 4000000 in
theorem bX2_holds_162 {x : Cx} {y : Ly} (l : Launch) (K : VK x l rmX2_holds y 6 cX2_holds RX2 wqX2_holds) (hy : y.2.2.2.2 = 0) {z : Int32 × QM} (hQ : VQ x y (some (.int z.1)) z.2 (some .boolean)) {M : QM} {o0 : Nat} {x3 : Int32} (ho0 : kls o0 = 2) (hF : fX2_holds_b162 M o0 x3 = some z) : V x y 6 M 162 [(0, .ref (ly_o y o0)), (3, .int x3)] [] := by
  unfold fX2_holds_b162 at hF
  refine v_iload_n (pc := 162) K dX2_holds_162 1 rfl ?_
  refine v_if_eq (pc := 163) (tgt := 175) K dX2_holds_163 (by decide) hF (fun c29 hF => ?_) (fun c29 hF => ?_)
  · refine v_iconst (pc := 175) (v := 1) K dX2_holds_175 rfl ?_
    refine v_goto (pc := 176) (tgt := 180) K dX2_holds_176 (by decide) ?_
    have hz := (Option.some.inj hF).symm
    subst hz
    exact v_zret (pc := 180) K hQ rfl dX2_holds_180
  · refine v_aload_n (pc := 166) K dX2_holds_166 0 rfl ?_
    refine gX2_stack (pc := 167) K hy ho0 jn_X2 (List.mem_cons_of_mem _ jl_X2_30) dX2_holds_167 ?_
    refine v_iconst (pc := 170) (v := 0) K dX2_holds_170 rfl ?_
    refine iX2_stack (pc := 171) K hy ho0 hF dX2_holds_171 (fun hi27 hF => ?_)
    refine v_if_eq (pc := 172) (tgt := 179) K dX2_holds_172 (by decide) hF (fun c28 hF => ?_) (fun c28 hF => ?_)
    · refine v_iconst (pc := 179) (v := 0) K dX2_holds_179 rfl ?_
      have hz := (Option.some.inj hF).symm
      subst hz
      exact v_zret (pc := 180) K hQ rfl dX2_holds_180
    · refine v_iconst (pc := 175) (v := 1) K dX2_holds_175 rfl ?_
      refine v_goto (pc := 176) (tgt := 180) K dX2_holds_176 (by decide) ?_
      have hz := (Option.some.inj hF).symm
      subst hz
      exact v_zret (pc := 180) K hQ rfl dX2_holds_180
def fX2_holds_b10 : Nat → QM → Nat → Int32 → Nat → Int32 → Int32 → Option (Int32 × QM)
  | 0, _, _, _, _, _, _ => none
  | q + 1, M, o0, x1, o2, x3, x4 => (if q_in x1 14 then if (q_a M o0 4 x1.toNatClampNeg) ≤ x4 then (fX2_holds_b162 M o0 x3) else if (256 : Int32) ≤ x4 then (fX2_holds_b162 M o0 x3) else (if q_in x4 256 then if (20000 : Int32) ≤ (q_a M o0 5 x4.toNatClampNeg) then if (q_a M o0 5 x4.toNatClampNeg) ≠ (20007 : Int32) then (fX2_holds_b121 (fun M o0 x1 o2 x3 x4 => fX2_holds_b10 q M o0 x1 o2 x3 x4) M o0 x1 o2 x3 x4 (q_a M o0 5 x4.toNatClampNeg)) else if x3 < (1 : Int32) then (fX2_holds_b121 (fun M o0 x1 o2 x3 x4 => fX2_holds_b10 q M o0 x1 o2 x3 x4) M o0 x1 o2 x3 x4 (q_a M o0 5 x4.toNatClampNeg)) else (if q_in (x3 - (1 : Int32)) 64 then (if q_in (x3 - (1 : Int32)) 64 then (q_t (p_a M o0 6 (x3 - (1 : Int32)).toNatClampNeg ((1 : Int32) - (q_a M o0 6 (x3 - (1 : Int32)).toNatClampNeg))) fun M6 => (fX2_holds_b156 (fun M o0 x1 o2 x3 x4 => fX2_holds_b10 q M o0 x1 o2 x3 x4) M6 o0 x1 o2 x3 x4)) else none) else none) else if (64 : Int32) ≤ x3 then (fX2_holds_b156 (fun M o0 x1 o2 x3 x4 => fX2_holds_b10 q M o0 x1 o2 x3 x4) M o0 x1 o2 x3 x4) else if (10000 : Int32) ≤ (q_a M o0 5 x4.toNatClampNeg) then (q_b (fX6_valueOf M o2 ((q_a M o0 5 x4.toNatClampNeg) - (10000 : Int32))) fun r10 M11 => (fX2_holds_b80 (fun M o0 x1 o2 x3 x4 => fX2_holds_b10 q M o0 x1 o2 x3 x4) M11 o0 x1 o2 x3 x4 r10 x3 o0)) else (fX2_holds_b80 (fun M o0 x1 o2 x3 x4 => fX2_holds_b10 q M o0 x1 o2 x3 x4) M o0 x1 o2 x3 x4 (q_a M o0 5 x4.toNatClampNeg) x3 o0) else none) else none)
set_option maxRecDepth 100000 in
set_option maxHeartbeats 4000000 in
theorem bX2_holds_10 {x : Cx} {y : Ly} (l : Launch) (K : VK x l rmX2_holds y 6 cX2_holds RX2 wqX2_holds) (hy : y.2.2.2.2 = 0) {z : Int32 × QM} (hQ : VQ x y (some (.int z.1)) z.2 (some .boolean)) : ∀ (q : Nat) {M : QM} {o0 : Nat} {x1 : Int32} {o2 : Nat} {x3 : Int32} {x4 : Int32}, kls o0 = 2 → kls o2 = 6 →  fX2_holds_b10 q M o0 x1 o2 x3 x4 = some z → V x y 6 M 10 [(0, .ref (ly_o y o0)), (1, .int x1), (2, .ref (ly_o y o2)), (3, .int x3), (4, .int x4)] [] := by
  intro q
  induction q with
  | zero =>
    intro M o0 x1 o2 x3 x4 ho0 ho2 hF
    rw [fX2_holds_b10] at hF
    cases hF
  | succ q ih =>
    intro M o0 x1 o2 x3 x4 ho0 ho2 hF
    rw [fX2_holds_b10] at hF
    refine v_iload (pc := 10) K dX2_holds_10 4 rfl ?_
    refine v_aload_n (pc := 12) K dX2_holds_12 0 rfl ?_
    refine gX2_stops (pc := 13) K hy ho0 jn_X2 (List.mem_cons_of_mem _ jl_X2_24) dX2_holds_13 ?_
    refine v_iload_n (pc := 16) K dX2_holds_16 1 rfl ?_
    refine iX2_stops (pc := 17) K hy ho0 hF dX2_holds_17 (fun hi2 hF => ?_)
    refine v_icmp_ge (pc := 18) (tgt := 162) K dX2_holds_18 (by decide) hF (fun c16 hF => ?_) (fun c16 hF => ?_)
    · refine v_sub [0, 3] rfl ?_
      exact bX2_holds_162 l K hy hQ ho0 hF
    · refine v_iload (pc := 21) K dX2_holds_21 4 rfl ?_
      refine v_sipush (pc := 23) (v := 256) K dX2_holds_23 rfl ?_
      refine v_icmp_ge (pc := 26) (tgt := 162) K dX2_holds_26 (by decide) hF (fun c15 hF => ?_) (fun c15 hF => ?_)
      · refine v_sub [0, 3] rfl ?_
        exact bX2_holds_162 l K hy hQ ho0 hF
      · refine v_aload_n (pc := 29) K dX2_holds_29 0 rfl ?_
        refine gX2_steps (pc := 30) K hy ho0 jn_X2 (List.mem_cons_of_mem _ jl_X2_27) dX2_holds_30 ?_
        refine v_iload (pc := 33) K dX2_holds_33 4 rfl ?_
        refine iX2_steps (pc := 35) K hy ho0 hF dX2_holds_35 (fun hi3 hF => ?_)
        refine v_istore (pc := 36) (lv' := [(5, .int (q_a M o0 5 x4.toNatClampNeg)), (0, .ref (ly_o y o0)), (1, .int x1), (2, .ref (ly_o y o2)), (3, .int x3), (4, .int x4)]) K 5 dX2_holds_36 (by decide) rfl ?_
        refine v_iload (pc := 38) K dX2_holds_38 0 rfl ?_
        refine v_sipush (pc := 40) (v := 20000) K dX2_holds_40 rfl ?_
        refine v_icmp_ge (pc := 43) (tgt := 87) K dX2_holds_43 (by decide) hF (fun c14 hF => ?_) (fun c14 hF => ?_)
        · refine v_iload (pc := 87) K dX2_holds_87 0 rfl ?_
          refine v_sipush (pc := 89) (v := 20007) K dX2_holds_89 rfl ?_
          refine v_icmp_ne (pc := 92) (tgt := 121) K dX2_holds_92 (by decide) hF (fun c8 hF => ?_) (fun c8 hF => ?_)
          · refine v_sub [1, 2, 3, 4, 5, 0] rfl ?_
            exact bX2_holds_121 l K hy hQ ih ho0 ho2 hF
          · refine v_iload_n (pc := 95) K dX2_holds_95 4 rfl ?_
            refine v_iconst (pc := 96) (v := 1) K dX2_holds_96 rfl ?_
            refine v_icmp_lt (pc := 97) (tgt := 121) K dX2_holds_97 (by decide) hF (fun c7 hF => ?_) (fun c7 hF => ?_)
            · refine v_sub [1, 2, 3, 4, 5, 0] rfl ?_
              exact bX2_holds_121 l K hy hQ ih ho0 ho2 hF
            · refine v_aload_n (pc := 100) K dX2_holds_100 1 rfl ?_
              refine gX2_stack (pc := 101) K hy ho0 jn_X2 (List.mem_cons_of_mem _ jl_X2_30) dX2_holds_101 ?_
              refine v_iload_n (pc := 104) K dX2_holds_104 4 rfl ?_
              refine v_iconst (pc := 105) (v := 1) K dX2_holds_105 rfl ?_
              refine v_isub (pc := 106) K dX2_holds_106 ?_
              refine v_iconst (pc := 107) (v := 1) K dX2_holds_107 rfl ?_
              refine v_aload_n (pc := 108) K dX2_holds_108 1 rfl ?_
              refine gX2_stack (pc := 109) K hy ho0 jn_X2 (List.mem_cons_of_mem _ jl_X2_30) dX2_holds_109 ?_
              refine v_iload_n (pc := 112) K dX2_holds_112 4 rfl ?_
              refine v_iconst (pc := 113) (v := 1) K dX2_holds_113 rfl ?_
              refine v_isub (pc := 114) K dX2_holds_114 ?_
              refine iX2_stack (pc := 115) K hy ho0 hF dX2_holds_115 (fun hi4 hF => ?_)
              refine v_isub (pc := 116) K dX2_holds_116 ?_
              refine uX2_stack (pc := 117) K hy ho0 hF dX2_holds_117 (fun hi5 hF => ?_)
              refine v_nmM hF (fun M6 hF => ?_)
              refine v_goto (pc := 118) (tgt := 156) K dX2_holds_118 (by decide) ?_
              refine v_sub [1, 2, 3, 4, 5] rfl ?_
              exact bX2_holds_156 l K hy hQ ih ho0 ho2 hF
        · refine v_iload_n (pc := 46) K dX2_holds_46 4 rfl ?_
          refine v_bipush (pc := 47) (v := 64) K dX2_holds_47 rfl ?_
          refine v_icmp_ge (pc := 49) (tgt := 156) K dX2_holds_49 (by decide) hF (fun c13 hF => ?_) (fun c13 hF => ?_)
          · refine v_sub [1, 2, 3, 4, 5] rfl ?_
            exact bX2_holds_156 l K hy hQ ih ho0 ho2 hF
          · refine v_aload_n (pc := 52) K dX2_holds_52 1 rfl ?_
            refine gX2_stack (pc := 53) K hy ho0 jn_X2 (List.mem_cons_of_mem _ jl_X2_30) dX2_holds_53 ?_
            refine v_iload_n (pc := 56) K dX2_holds_56 4 rfl ?_
            refine v_iload (pc := 57) K dX2_holds_57 0 rfl ?_
            refine v_sipush (pc := 59) (v := 10000) K dX2_holds_59 rfl ?_
            refine v_icmp_ge (pc := 62) (tgt := 70) K dX2_holds_62 (by decide) hF (fun c12 hF => ?_) (fun c12 hF => ?_)
            · refine v_aload_n (pc := 70) K dX2_holds_70 3 rfl ?_
              refine v_iload (pc := 71) K dX2_holds_71 0 rfl ?_
              refine v_sipush (pc := 73) (v := 10000) K dX2_holds_73 rfl ?_
              refine v_isub (pc := 76) K dX2_holds_76 ?_
              obtain ⟨r10, M11, hc9, hF⟩ := q_bE hF
              refine v_callV (pc := 77) (ci := 6) (As := [.int ((q_a M o0 5 x4.toNatClampNeg) - (10000 : Int32))]) (rest := [.int x3, .ref (ly_a y o0 6)]) (st' := [.int r10, .int x3, .ref (ly_a y o0 6)]) (r := some (.int r10)) (M1 := M11) K (kX6_valueOf l K.2.2.2.2.2.2.1 hy ho2 hc9) (jg_V jl_X2_57 jw_i_X6_valueOf jw_s_X6_valueOf jw_n_X6 jw_c_X6_valueOf) rfl rfl rfl jd_X6_valueOf ⟨Nat.le_of_ble_eq_true rfl, Nat.le_of_ble_eq_true rfl⟩ rfl rfl (Nat.le_of_ble_eq_true rfl) ho2 (okc_0 hy (by decide)) rfl dX2_holds_77 rfl ?_
              refine v_sub [1, 2, 3, 4, 5] rfl ?_
              exact bX2_holds_80 l K hy hQ ih ho0 ho2 ho0 hF
            · refine v_iload (pc := 65) K dX2_holds_65 0 rfl ?_
              refine v_goto (pc := 67) (tgt := 80) K dX2_holds_67 (by decide) ?_
              refine v_sub [1, 2, 3, 4, 5] rfl ?_
              exact bX2_holds_80 l K hy hQ ih ho0 ho2 ho0 hF
def fX2_holds (M : QM) (o0 : Nat) (x1 : Int32) (o2 : Nat) : Option (Int32 × QM) := (if q_in x1 14 then (fX2_holds_b10 q_F M o0 x1 o2 (0 : Int32) (q_a M o0 3 x1.toNatClampNeg)) else none)
set_option maxRecDepth 100000 in
set_option maxHeartbeats 4000000 in
theorem bX2_holds_0 {x : Cx} {y : Ly} (l : Launch) (K : VK x l rmX2_holds y 6 cX2_holds RX2 wqX2_holds) (hy : y.2.2.2.2 = 0) {z : Int32 × QM} (hQ : VQ x y (some (.int z.1)) z.2 (some .boolean)) {M : QM} {o0 : Nat} {x1 : Int32} {o2 : Nat} (ho0 : kls o0 = 2) (ho2 : kls o2 = 6) (hF : fX2_holds M o0 x1 o2 = some z) : V x y 6 M 0 [(0, .ref (ly_o y o0)), (1, .int x1), (2, .ref (ly_o y o2))] [] := by
  unfold fX2_holds at hF
  refine v_iconst (pc := 0) (v := 0) K dX2_holds_0 rfl ?_
  refine v_istore_n (pc := 1) (lv' := [(3, .int (0 : Int32)), (0, .ref (ly_o y o0)), (1, .int x1), (2, .ref (ly_o y o2))]) K dX2_holds_1 3 rfl (by decide) rfl ?_
  refine v_aload_n (pc := 2) K dX2_holds_2 1 rfl ?_
  refine gX2_starts (pc := 3) K hy ho0 jn_X2 (List.mem_cons_of_mem _ jl_X2_21) dX2_holds_3 ?_
  refine v_iload_n (pc := 6) K dX2_holds_6 2 rfl ?_
  refine iX2_starts (pc := 7) K hy ho0 hF dX2_holds_7 (fun hi1 hF => ?_)
  refine v_istore (pc := 8) (lv' := [(4, .int (q_a M o0 3 x1.toNatClampNeg)), (3, .int (0 : Int32)), (0, .ref (ly_o y o0)), (1, .int x1), (2, .ref (ly_o y o2))]) K 4 dX2_holds_8 (by decide) rfl ?_
  refine v_sub [2, 3, 4, 1, 0] rfl ?_
  exact bX2_holds_10 l K hy hQ q_F ho0 ho2 hF
set_option maxRecDepth 100000 in
set_option maxHeartbeats 4000000 in
theorem kX2_holds (l : Launch) {y : Ly} (hJ : ly_J y) (hy : y.2.2.2.2 = 0) {M M1 : QM} {r : Int32} {o0 : Nat} {x1 : Int32} {o2 : Nat} (ho0 : kls o0 = 2) (ho2 : kls o2 = 6) (hF : fX2_holds M o0 x1 o2 = some (r, M1)) : Met l yX2_holds wqX2_holds rmX2_holds (q_P y [.ref (ly_o y o0), .int x1, .ref (ly_o y o2)] M) (q_E y (some (.int r)) M1) 0 0 (ly_A y) :=
  q_met (by decide) rfl hJ rfl rfl rfl (fun x K hQ => bX2_holds_0 l K hy (z := (r, M1)) hQ ho0 ho2 hF)
-- ===== X2_weight (ILTwoCards$Sight;)I
theorem jd_X2_weight : yX2_weight.cls = RX2 ∧ yX2_weight.cls ≠ "java/lang/invoke/MethodHandle" ∧ yX2_weight.cls ≠ "java/lang/invoke/VarHandle" ∧ (parseMethodDescriptor yX2_weight.desc).map (fun d => d.parameters.length) = some 2 := by decide +kernel
abbrev wqX2_weight : List Cond := .code yX2_weight cX2_weight 4 (some .int) :: wsL_law
abbrev rmX2_weight : Room := { frames := 2, cells := 0, slots := 0, locals := 47 }
def fX2_weight_b34 (M : QM) (o0 : Nat) (x3 : Int32) : Option (Int32 × QM) := (if q_in x3 14 then some (q_a M o0 2 x3.toNatClampNeg, M) else none)
set_option maxRecDepth 100000 in
set_option maxHeartbeats 4000000 in
theorem bX2_weight_34 {x : Cx} {y : Ly} (l : Launch) (K : VK x l rmX2_weight y 4 cX2_weight RX2 wqX2_weight) (hy : y.2.2.2.2 = 0) {z : Int32 × QM} (hQ : VQ x y (some (.int z.1)) z.2 (some .int)) {M : QM} {o0 : Nat} {x3 : Int32} (ho0 : kls o0 = 2) (hF : fX2_weight_b34 M o0 x3 = some z) : V x y 4 M 34 [(0, .ref (ly_o y o0)), (3, .int x3)] [] := by
  unfold fX2_weight_b34 at hF
  refine v_aload_n (pc := 34) K dX2_weight_34 0 rfl ?_
  refine gX2_numbers (pc := 35) K hy ho0 jn_X2 (List.mem_cons_of_mem _ jl_X2_18) dX2_weight_35 ?_
  refine v_iload_n (pc := 38) K dX2_weight_38 1 rfl ?_
  refine iX2_numbers (pc := 39) K hy ho0 hF dX2_weight_39 (fun hi11 hF => ?_)
  have hz := (Option.some.inj hF).symm
  subst hz
  exact v_iret (pc := 40) K hQ dX2_weight_40
def fX2_weight_b41 (k2 : QM → Nat → Int32 → Nat → Int32 → Option (Int32 × QM)) (M : QM) (o0 : Nat) (x1 : Int32) (o2 : Nat) (x3 : Int32) : Option (Int32 × QM) := (k2 M o0 x1 o2 (x3 + (1 : Int32)))
set_option maxRecDepth 100000 in
set_option maxHeartbeats 4000000 in
theorem bX2_weight_41 {x : Cx} {y : Ly} (l : Launch) (K : VK x l rmX2_weight y 4 cX2_weight RX2 wqX2_weight) (hy : y.2.2.2.2 = 0) {z : Int32 × QM} (hQ : VQ x y (some (.int z.1)) z.2 (some .int)) {k2 : QM → Nat → Int32 → Nat → Int32 → Option (Int32 × QM)} (hk2 : ∀ {M : QM} {o0 : Nat} {x1 : Int32} {o2 : Nat} {x3 : Int32}, kls o0 = 2 → kls o2 = 6 → k2 M o0 x1 o2 x3 = some z → V x y 4 M 2 [(0, .ref (ly_o y o0)), (1, .int x1), (2, .ref (ly_o y o2)), (3, .int x3)] []) {M : QM} {o0 : Nat} {x1 : Int32} {o2 : Nat} {x3 : Int32} (ho0 : kls o0 = 2) (ho2 : kls o2 = 6) (hF : fX2_weight_b41 k2 M o0 x1 o2 x3 = some z) : V x y 4 M 41 [(0, .ref (ly_o y o0)), (1, .int x1), (2, .ref (ly_o y o2)), (3, .int x3)] [] := by
  unfold fX2_weight_b41 at hF
  refine v_iinc (pc := 41) (v1 := x3 + (1 : Int32)) (lv' := [(3, .int (x3 + (1 : Int32))), (0, .ref (ly_o y o0)), (1, .int x1), (2, .ref (ly_o y o2))]) K dX2_weight_41 3 rfl rfl (by decide) rfl ?_
  refine v_goto (pc := 44) (tgt := 2) K dX2_weight_44 (by decide) ?_
  refine v_sub [1, 2, 3, 0] rfl ?_
  exact hk2 ho0 ho2 hF
def fX2_weight_b2 : Nat → QM → Nat → Int32 → Nat → Int32 → Option (Int32 × QM)
  | 0, _, _, _, _, _ => none
  | q + 1, M, o0, x1, o2, x3 => if (q_i M o0 8) ≤ x3 then some ((0 : Int32), M) else if (14 : Int32) ≤ x3 then some ((0 : Int32), M) else (q_b (fX2_slotOf M o0 x3) fun r2 M3 => if r2 ≠ x1 then (fX2_weight_b41 (fun M o0 x1 o2 x3 => fX2_weight_b2 q M o0 x1 o2 x3) M3 o0 x1 o2 x3) else (q_b (fX2_holds M3 o0 x3 o2) fun r5 M6 => if r5 = (0 : Int32) then (fX2_weight_b41 (fun M o0 x1 o2 x3 => fX2_weight_b2 q M o0 x1 o2 x3) M6 o0 x1 o2 x3) else (fX2_weight_b34 M6 o0 x3)))
set_option maxRecDepth 100000 in
set_option maxHeartbeats 4000000 in
theorem bX2_weight_2 {x : Cx} {y : Ly} (l : Launch) (K : VK x l rmX2_weight y 4 cX2_weight RX2 wqX2_weight) (hy : y.2.2.2.2 = 0) {z : Int32 × QM} (hQ : VQ x y (some (.int z.1)) z.2 (some .int)) : ∀ (q : Nat) {M : QM} {o0 : Nat} {x1 : Int32} {o2 : Nat} {x3 : Int32}, kls o0 = 2 → kls o2 = 6 →  fX2_weight_b2 q M o0 x1 o2 x3 = some z → V x y 4 M 2 [(0, .ref (ly_o y o0)), (1, .int x1), (2, .ref (ly_o y o2)), (3, .int x3)] [] := by
  intro q
  induction q with
  | zero =>
    intro M o0 x1 o2 x3 ho0 ho2 hF
    rw [fX2_weight_b2] at hF
    cases hF
  | succ q ih =>
    intro M o0 x1 o2 x3 ho0 ho2 hF
    rw [fX2_weight_b2] at hF
    refine v_iload_n (pc := 2) K dX2_weight_2 3 rfl ?_
    refine v_aload_n (pc := 3) K dX2_weight_3 0 rfl ?_
    refine gX2_clauses (pc := 4) K hy ho0 jn_X2 (List.mem_cons_of_mem _ jl_X2_46) dX2_weight_4 ?_
    refine v_icmp_ge (pc := 7) (tgt := 47) K dX2_weight_7 (by decide) hF (fun c10 hF => ?_) (fun c10 hF => ?_)
    · refine v_iconst (pc := 47) (v := 0) K dX2_weight_47 rfl ?_
      have hz := (Option.some.inj hF).symm
      subst hz
      exact v_iret (pc := 48) K hQ dX2_weight_48
    · refine v_iload_n (pc := 10) K dX2_weight_10 3 rfl ?_
      refine v_bipush (pc := 11) (v := 14) K dX2_weight_11 rfl ?_
      refine v_icmp_ge (pc := 13) (tgt := 47) K dX2_weight_13 (by decide) hF (fun c9 hF => ?_) (fun c9 hF => ?_)
      · refine v_iconst (pc := 47) (v := 0) K dX2_weight_47 rfl ?_
        have hz := (Option.some.inj hF).symm
        subst hz
        exact v_iret (pc := 48) K hQ dX2_weight_48
      · refine v_aload_n (pc := 16) K dX2_weight_16 0 rfl ?_
        refine v_iload_n (pc := 17) K dX2_weight_17 3 rfl ?_
        obtain ⟨r2, M3, hc1, hF⟩ := q_bE hF
        refine v_callV (pc := 18) (ci := 2) (As := [.int x3]) (rest := []) (st' := [.int r2]) (r := some (.int r2)) (M1 := M3) K (kX2_slotOf l K.2.2.2.2.2.2.1 hy ho0 hc1) (jg_V jl_X2_49 jw_i_X2_slotOf jw_s_X2_slotOf jw_n_X2 jw_c_X2_slotOf) rfl rfl rfl jd_X2_slotOf ⟨Nat.le_of_ble_eq_true rfl, Nat.le_of_ble_eq_true rfl⟩ rfl rfl (Nat.le_of_ble_eq_true rfl) ho0 (okc_0 hy (by decide)) rfl dX2_weight_18 rfl ?_
        refine v_iload_n (pc := 21) K dX2_weight_21 1 rfl ?_
        refine v_icmp_ne (pc := 22) (tgt := 41) K dX2_weight_22 (by decide) hF (fun c8 hF => ?_) (fun c8 hF => ?_)
        · exact bX2_weight_41 l K hy hQ ih ho0 ho2 hF
        · refine v_aload_n (pc := 25) K dX2_weight_25 0 rfl ?_
          refine v_iload_n (pc := 26) K dX2_weight_26 3 rfl ?_
          refine v_aload_n (pc := 27) K dX2_weight_27 2 rfl ?_
          obtain ⟨r5, M6, hc4, hF⟩ := q_bE hF
          refine v_callV (pc := 28) (ci := 2) (As := [.int x3, .ref (ly_o y o2)]) (rest := []) (st' := [.int r5]) (r := some (.int r5)) (M1 := M6) K (kX2_holds l K.2.2.2.2.2.2.1 hy ho0 ho2 hc4) (jg_V jl_X2_53 jw_i_X2_holds jw_s_X2_holds jw_n_X2 jw_c_X2_holds) rfl rfl rfl jd_X2_holds ⟨Nat.le_of_ble_eq_true rfl, Nat.le_of_ble_eq_true rfl⟩ rfl rfl (Nat.le_of_ble_eq_true rfl) ho0 (okc_0 hy (by decide)) rfl dX2_weight_28 rfl ?_
          refine v_if_eq (pc := 31) (tgt := 41) K dX2_weight_31 (by decide) hF (fun c7 hF => ?_) (fun c7 hF => ?_)
          · exact bX2_weight_41 l K hy hQ ih ho0 ho2 hF
          · refine v_sub [0, 3] rfl ?_
            exact bX2_weight_34 l K hy hQ ho0 hF
def fX2_weight (M : QM) (o0 : Nat) (x1 : Int32) (o2 : Nat) : Option (Int32 × QM) := (fX2_weight_b2 q_F M o0 x1 o2 (0 : Int32))
set_option maxRecDepth 100000 in
set_option maxHeartbeats 4000000 in
theorem bX2_weight_0 {x : Cx} {y : Ly} (l : Launch) (K : VK x l rmX2_weight y 4 cX2_weight RX2 wqX2_weight) (hy : y.2.2.2.2 = 0) {z : Int32 × QM} (hQ : VQ x y (some (.int z.1)) z.2 (some .int)) {M : QM} {o0 : Nat} {x1 : Int32} {o2 : Nat} (ho0 : kls o0 = 2) (ho2 : kls o2 = 6) (hF : fX2_weight M o0 x1 o2 = some z) : V x y 4 M 0 [(0, .ref (ly_o y o0)), (1, .int x1), (2, .ref (ly_o y o2))] [] := by
  unfold fX2_weight at hF
  refine v_iconst (pc := 0) (v := 0) K dX2_weight_0 rfl ?_
  refine v_istore_n (pc := 1) (lv' := [(3, .int (0 : Int32)), (0, .ref (ly_o y o0)), (1, .int x1), (2, .ref (ly_o y o2))]) K dX2_weight_1 3 rfl (by decide) rfl ?_
  refine v_sub [1, 2, 3, 0] rfl ?_
  exact bX2_weight_2 l K hy hQ q_F ho0 ho2 hF
set_option maxRecDepth 100000 in
set_option maxHeartbeats 4000000 in
theorem kX2_weight (l : Launch) {y : Ly} (hJ : ly_J y) (hy : y.2.2.2.2 = 0) {M M1 : QM} {r : Int32} {o0 : Nat} {x1 : Int32} {o2 : Nat} (ho0 : kls o0 = 2) (ho2 : kls o2 = 6) (hF : fX2_weight M o0 x1 o2 = some (r, M1)) : Met l yX2_weight wqX2_weight rmX2_weight (q_P y [.ref (ly_o y o0), .int x1, .ref (ly_o y o2)] M) (q_E y (some (.int r)) M1) 0 0 (ly_A y) :=
  q_met (by decide) rfl hJ rfl rfl rfl (fun x K hQ => bX2_weight_0 l K hy (z := (r, M1)) hQ ho0 ho2 hF)
-- ===== X2_weighing (LTwoCards$Sight;)I
theorem jd_X2_weighing : yX2_weighing.cls = RX2 ∧ yX2_weighing.cls ≠ "java/lang/invoke/MethodHandle" ∧ yX2_weighing.cls ≠ "java/lang/invoke/VarHandle" ∧ (parseMethodDescriptor yX2_weighing.desc).map (fun d => d.parameters.length) = some 1 := by decide +kernel
abbrev wqX2_weighing : List Cond := .code yX2_weighing cX2_weighing 5 (some .int) :: wsL_law
abbrev rmX2_weighing : Room := { frames := 2, cells := 0, slots := 0, locals := 47 }
def fX2_weighing_b62 (k4 : QM → Nat → Nat → Int32 → Int32 → Option (Int32 × QM)) (M : QM) (o0 : Nat) (o1 : Nat) (x2 : Int32) (x3 : Int32) : Option (Int32 × QM) := (k4 M o0 o1 x2 (x3 + (1 : Int32)))
set_option maxRecDepth 100000 in
set_option maxHeartbeats 4000000 in
theorem bX2_weighing_62 {x : Cx} {y : Ly} (l : Launch) (K : VK x l rmX2_weighing y 5 cX2_weighing RX2 wqX2_weighing) (hy : y.2.2.2.2 = 0) {z : Int32 × QM} (hQ : VQ x y (some (.int z.1)) z.2 (some .int)) {k4 : QM → Nat → Nat → Int32 → Int32 → Option (Int32 × QM)} (hk4 : ∀ {M : QM} {o0 : Nat} {o1 : Nat} {x2 : Int32} {x3 : Int32}, kls o0 = 2 → kls o1 = 6 → k4 M o0 o1 x2 x3 = some z → V x y 5 M 4 [(0, .ref (ly_o y o0)), (1, .ref (ly_o y o1)), (2, .int x2), (3, .int x3)] []) {M : QM} {o0 : Nat} {o1 : Nat} {x2 : Int32} {x3 : Int32} (ho0 : kls o0 = 2) (ho1 : kls o1 = 6) (hF : fX2_weighing_b62 k4 M o0 o1 x2 x3 = some z) : V x y 5 M 62 [(0, .ref (ly_o y o0)), (1, .ref (ly_o y o1)), (2, .int x2), (3, .int x3)] [] := by
  unfold fX2_weighing_b62 at hF
  refine v_iinc (pc := 62) (v1 := x3 + (1 : Int32)) (lv' := [(3, .int (x3 + (1 : Int32))), (0, .ref (ly_o y o0)), (1, .ref (ly_o y o1)), (2, .int x2)]) K dX2_weighing_62 3 rfl rfl (by decide) rfl ?_
  refine v_goto (pc := 65) (tgt := 4) K dX2_weighing_65 (by decide) ?_
  refine v_sub [1, 2, 3, 0] rfl ?_
  exact hk4 ho0 ho1 hF
def fX2_weighing_b4 : Nat → QM → Nat → Nat → Int32 → Int32 → Option (Int32 × QM)
  | 0, _, _, _, _, _ => none
  | q + 1, M, o0, o1, x2, x3 => if (q_i M o0 8) ≤ x3 then some (x2, M) else if (14 : Int32) ≤ x3 then some (x2, M) else (q_b (fX2_slotOf M o0 x3) fun r2 M3 => if (32 : Int32) ≤ ((4 : Int32) * r2) then (fX2_weighing_b62 (fun M o0 o1 x2 x3 => fX2_weighing_b4 q M o0 o1 x2 x3) M3 o0 o1 x2 x3) else if ((x2 >>> (((4 : Int32) * r2) &&& (31 : Int32))) &&& (15 : Int32)) ≠ (0 : Int32) then (fX2_weighing_b62 (fun M o0 o1 x2 x3 => fX2_weighing_b4 q M o0 o1 x2 x3) M3 o0 o1 x2 x3) else (q_b (fX2_holds M3 o0 x3 o1) fun r5 M6 => if r5 = (0 : Int32) then (fX2_weighing_b62 (fun M o0 o1 x2 x3 => fX2_weighing_b4 q M o0 o1 x2 x3) M6 o0 o1 x2 x3) else (fX2_weighing_b62 (fun M o0 o1 x2 x3 => fX2_weighing_b4 q M o0 o1 x2 x3) M6 o0 o1 (x2 ||| ((x3 + (1 : Int32)) <<< (((4 : Int32) * r2) &&& (31 : Int32)))) x3)))
set_option maxRecDepth 100000 in
set_option maxHeartbeats 4000000 in
theorem bX2_weighing_4 {x : Cx} {y : Ly} (l : Launch) (K : VK x l rmX2_weighing y 5 cX2_weighing RX2 wqX2_weighing) (hy : y.2.2.2.2 = 0) {z : Int32 × QM} (hQ : VQ x y (some (.int z.1)) z.2 (some .int)) : ∀ (q : Nat) {M : QM} {o0 : Nat} {o1 : Nat} {x2 : Int32} {x3 : Int32}, kls o0 = 2 → kls o1 = 6 →  fX2_weighing_b4 q M o0 o1 x2 x3 = some z → V x y 5 M 4 [(0, .ref (ly_o y o0)), (1, .ref (ly_o y o1)), (2, .int x2), (3, .int x3)] [] := by
  intro q
  induction q with
  | zero =>
    intro M o0 o1 x2 x3 ho0 ho1 hF
    rw [fX2_weighing_b4] at hF
    cases hF
  | succ q ih =>
    intro M o0 o1 x2 x3 ho0 ho1 hF
    rw [fX2_weighing_b4] at hF
    refine v_iload_n (pc := 4) K dX2_weighing_4 3 rfl ?_
    refine v_aload_n (pc := 5) K dX2_weighing_5 0 rfl ?_
    refine gX2_clauses (pc := 6) K hy ho0 jn_X2 (List.mem_cons_of_mem _ jl_X2_46) dX2_weighing_6 ?_
    refine v_icmp_ge (pc := 9) (tgt := 68) K dX2_weighing_9 (by decide) hF (fun c11 hF => ?_) (fun c11 hF => ?_)
    · refine v_iload_n (pc := 68) K dX2_weighing_68 2 rfl ?_
      have hz := (Option.some.inj hF).symm
      subst hz
      exact v_iret (pc := 69) K hQ dX2_weighing_69
    · refine v_iload_n (pc := 12) K dX2_weighing_12 3 rfl ?_
      refine v_bipush (pc := 13) (v := 14) K dX2_weighing_13 rfl ?_
      refine v_icmp_ge (pc := 15) (tgt := 68) K dX2_weighing_15 (by decide) hF (fun c10 hF => ?_) (fun c10 hF => ?_)
      · refine v_iload_n (pc := 68) K dX2_weighing_68 2 rfl ?_
        have hz := (Option.some.inj hF).symm
        subst hz
        exact v_iret (pc := 69) K hQ dX2_weighing_69
      · refine v_iconst (pc := 18) (v := 4) K dX2_weighing_18 rfl ?_
        refine v_aload_n (pc := 19) K dX2_weighing_19 0 rfl ?_
        refine v_iload_n (pc := 20) K dX2_weighing_20 3 rfl ?_
        obtain ⟨r2, M3, hc1, hF⟩ := q_bE hF
        refine v_callV (pc := 21) (ci := 2) (As := [.int x3]) (rest := [.int (4 : Int32)]) (st' := [.int r2, .int (4 : Int32)]) (r := some (.int r2)) (M1 := M3) K (kX2_slotOf l K.2.2.2.2.2.2.1 hy ho0 hc1) (jg_V jl_X2_49 jw_i_X2_slotOf jw_s_X2_slotOf jw_n_X2 jw_c_X2_slotOf) rfl rfl rfl jd_X2_slotOf ⟨Nat.le_of_ble_eq_true rfl, Nat.le_of_ble_eq_true rfl⟩ rfl rfl (Nat.le_of_ble_eq_true rfl) ho0 (okc_0 hy (by decide)) rfl dX2_weighing_21 rfl ?_
        refine v_imul (pc := 24) K dX2_weighing_24 ?_
        refine v_istore (pc := 25) (lv' := [(4, .int ((4 : Int32) * r2)), (0, .ref (ly_o y o0)), (1, .ref (ly_o y o1)), (2, .int x2), (3, .int x3)]) K 4 dX2_weighing_25 (by decide) rfl ?_
        refine v_iload (pc := 27) K dX2_weighing_27 0 rfl ?_
        refine v_bipush (pc := 29) (v := 32) K dX2_weighing_29 rfl ?_
        refine v_icmp_ge (pc := 31) (tgt := 62) K dX2_weighing_31 (by decide) hF (fun c9 hF => ?_) (fun c9 hF => ?_)
        · refine v_sub [1, 2, 3, 4] rfl ?_
          exact bX2_weighing_62 l K hy hQ ih ho0 ho1 hF
        · refine v_iload_n (pc := 34) K dX2_weighing_34 3 rfl ?_
          refine v_iload (pc := 35) K dX2_weighing_35 0 rfl ?_
          refine v_ishr (pc := 37) K dX2_weighing_37 ?_
          refine v_bipush (pc := 38) (v := 15) K dX2_weighing_38 rfl ?_
          refine v_iand (pc := 40) K dX2_weighing_40 ?_
          refine v_if_ne (pc := 41) (tgt := 62) K dX2_weighing_41 (by decide) hF (fun c8 hF => ?_) (fun c8 hF => ?_)
          · refine v_sub [1, 2, 3, 4] rfl ?_
            exact bX2_weighing_62 l K hy hQ ih ho0 ho1 hF
          · refine v_aload_n (pc := 44) K dX2_weighing_44 1 rfl ?_
            refine v_iload_n (pc := 45) K dX2_weighing_45 4 rfl ?_
            refine v_aload_n (pc := 46) K dX2_weighing_46 2 rfl ?_
            obtain ⟨r5, M6, hc4, hF⟩ := q_bE hF
            refine v_callV (pc := 47) (ci := 2) (As := [.int x3, .ref (ly_o y o1)]) (rest := []) (st' := [.int r5]) (r := some (.int r5)) (M1 := M6) K (kX2_holds l K.2.2.2.2.2.2.1 hy ho0 ho1 hc4) (jg_V jl_X2_53 jw_i_X2_holds jw_s_X2_holds jw_n_X2 jw_c_X2_holds) rfl rfl rfl jd_X2_holds ⟨Nat.le_of_ble_eq_true rfl, Nat.le_of_ble_eq_true rfl⟩ rfl rfl (Nat.le_of_ble_eq_true rfl) ho0 (okc_0 hy (by decide)) rfl dX2_weighing_47 rfl ?_
            refine v_if_eq (pc := 50) (tgt := 62) K dX2_weighing_50 (by decide) hF (fun c7 hF => ?_) (fun c7 hF => ?_)
            · refine v_sub [1, 2, 3, 4] rfl ?_
              exact bX2_weighing_62 l K hy hQ ih ho0 ho1 hF
            · refine v_iload_n (pc := 53) K dX2_weighing_53 3 rfl ?_
              refine v_iload_n (pc := 54) K dX2_weighing_54 4 rfl ?_
              refine v_iconst (pc := 55) (v := 1) K dX2_weighing_55 rfl ?_
              refine v_iadd (pc := 56) K dX2_weighing_56 ?_
              refine v_iload (pc := 57) K dX2_weighing_57 0 rfl ?_
              refine v_ishl (pc := 59) K dX2_weighing_59 ?_
              refine v_ior (pc := 60) K dX2_weighing_60 ?_
              refine v_istore_n (pc := 61) (lv' := [(2, .int (x2 ||| ((x3 + (1 : Int32)) <<< (((4 : Int32) * r2) &&& (31 : Int32))))), (4, .int ((4 : Int32) * r2)), (0, .ref (ly_o y o0)), (1, .ref (ly_o y o1)), (3, .int x3)]) K dX2_weighing_61 2 rfl (by decide) rfl ?_
              refine v_sub [2, 3, 0, 4] rfl ?_
              exact bX2_weighing_62 l K hy hQ ih ho0 ho1 hF
def fX2_weighing (M : QM) (o0 : Nat) (o1 : Nat) : Option (Int32 × QM) := (fX2_weighing_b4 q_F M o0 o1 (0 : Int32) (0 : Int32))
set_option maxRecDepth 100000 in
set_option maxHeartbeats 4000000 in
theorem bX2_weighing_0 {x : Cx} {y : Ly} (l : Launch) (K : VK x l rmX2_weighing y 5 cX2_weighing RX2 wqX2_weighing) (hy : y.2.2.2.2 = 0) {z : Int32 × QM} (hQ : VQ x y (some (.int z.1)) z.2 (some .int)) {M : QM} {o0 : Nat} {o1 : Nat} (ho0 : kls o0 = 2) (ho1 : kls o1 = 6) (hF : fX2_weighing M o0 o1 = some z) : V x y 5 M 0 [(0, .ref (ly_o y o0)), (1, .ref (ly_o y o1))] [] := by
  unfold fX2_weighing at hF
  refine v_iconst (pc := 0) (v := 0) K dX2_weighing_0 rfl ?_
  refine v_istore_n (pc := 1) (lv' := [(2, .int (0 : Int32)), (0, .ref (ly_o y o0)), (1, .ref (ly_o y o1))]) K dX2_weighing_1 2 rfl (by decide) rfl ?_
  refine v_iconst (pc := 2) (v := 0) K dX2_weighing_2 rfl ?_
  refine v_istore_n (pc := 3) (lv' := [(3, .int (0 : Int32)), (2, .int (0 : Int32)), (0, .ref (ly_o y o0)), (1, .ref (ly_o y o1))]) K dX2_weighing_3 3 rfl (by decide) rfl ?_
  refine v_sub [2, 3, 1, 0] rfl ?_
  exact bX2_weighing_4 l K hy hQ q_F ho0 ho1 hF
set_option maxRecDepth 100000 in
set_option maxHeartbeats 4000000 in
theorem kX2_weighing (l : Launch) {y : Ly} (hJ : ly_J y) (hy : y.2.2.2.2 = 0) {M M1 : QM} {r : Int32} {o0 : Nat} {o1 : Nat} (ho0 : kls o0 = 2) (ho1 : kls o1 = 6) (hF : fX2_weighing M o0 o1 = some (r, M1)) : Met l yX2_weighing wqX2_weighing rmX2_weighing (q_P y [.ref (ly_o y o0), .ref (ly_o y o1)] M) (q_E y (some (.int r)) M1) 0 0 (ly_A y) :=
  q_met (by decide) rfl hJ rfl rfl rfl (fun x K hQ => bX2_weighing_0 l K hy (z := (r, M1)) hQ ho0 ho1 hF)
-- ===== X2_letsRefuse (LTwoCards$Sight;)Z
theorem jd_X2_letsRefuse : yX2_letsRefuse.cls = RX2 ∧ yX2_letsRefuse.cls ≠ "java/lang/invoke/MethodHandle" ∧ yX2_letsRefuse.cls ≠ "java/lang/invoke/VarHandle" ∧ (parseMethodDescriptor yX2_letsRefuse.desc).map (fun d => d.parameters.length) = some 1 := by decide +kernel
abbrev wqX2_letsRefuse : List Cond := .code yX2_letsRefuse cX2_letsRefuse 3 (some .boolean) :: wsL_law
abbrev rmX2_letsRefuse : Room := { frames := 2, cells := 0, slots := 0, locals := 47 }
def fX2_letsRefuse_b37 (k2 : QM → Nat → Nat → Int32 → Option (Int32 × QM)) (M : QM) (o0 : Nat) (o1 : Nat) (x2 : Int32) : Option (Int32 × QM) := (k2 M o0 o1 (x2 + (1 : Int32)))
set_option maxRecDepth 100000 in
set_option maxHeartbeats 4000000 in
theorem bX2_letsRefuse_37 {x : Cx} {y : Ly} (l : Launch) (K : VK x l rmX2_letsRefuse y 3 cX2_letsRefuse RX2 wqX2_letsRefuse) (hy : y.2.2.2.2 = 0) {z : Int32 × QM} (hQ : VQ x y (some (.int z.1)) z.2 (some .boolean)) {k2 : QM → Nat → Nat → Int32 → Option (Int32 × QM)} (hk2 : ∀ {M : QM} {o0 : Nat} {o1 : Nat} {x2 : Int32}, kls o0 = 2 → kls o1 = 6 → k2 M o0 o1 x2 = some z → V x y 3 M 2 [(0, .ref (ly_o y o0)), (1, .ref (ly_o y o1)), (2, .int x2)] []) {M : QM} {o0 : Nat} {o1 : Nat} {x2 : Int32} (ho0 : kls o0 = 2) (ho1 : kls o1 = 6) (hF : fX2_letsRefuse_b37 k2 M o0 o1 x2 = some z) : V x y 3 M 37 [(0, .ref (ly_o y o0)), (1, .ref (ly_o y o1)), (2, .int x2)] [] := by
  unfold fX2_letsRefuse_b37 at hF
  refine v_iinc (pc := 37) (v1 := x2 + (1 : Int32)) (lv' := [(2, .int (x2 + (1 : Int32))), (0, .ref (ly_o y o0)), (1, .ref (ly_o y o1))]) K dX2_letsRefuse_37 2 rfl rfl (by decide) rfl ?_
  refine v_goto (pc := 40) (tgt := 2) K dX2_letsRefuse_40 (by decide) ?_
  refine v_sub [1, 2, 0] rfl ?_
  exact hk2 ho0 ho1 hF
def fX2_letsRefuse_b2 : Nat → QM → Nat → Nat → Int32 → Option (Int32 × QM)
  | 0, _, _, _, _ => none
  | q + 1, M, o0, o1, x2 => if (q_i M o0 8) ≤ x2 then some ((0 : Int32), M) else if (14 : Int32) ≤ x2 then some ((0 : Int32), M) else (if q_in x2 14 then if (q_a M o0 0 x2.toNatClampNeg) ≠ (2 : Int32) then (fX2_letsRefuse_b37 (fun M o0 o1 x2 => fX2_letsRefuse_b2 q M o0 o1 x2) M o0 o1 x2) else (q_b (fX2_holds M o0 x2 o1) fun r3 M4 => if r3 = (0 : Int32) then (fX2_letsRefuse_b37 (fun M o0 o1 x2 => fX2_letsRefuse_b2 q M o0 o1 x2) M4 o0 o1 x2) else some ((1 : Int32), M4)) else none)
set_option maxRecDepth 100000 in
set_option maxHeartbeats 4000000 in
theorem bX2_letsRefuse_2 {x : Cx} {y : Ly} (l : Launch) (K : VK x l rmX2_letsRefuse y 3 cX2_letsRefuse RX2 wqX2_letsRefuse) (hy : y.2.2.2.2 = 0) {z : Int32 × QM} (hQ : VQ x y (some (.int z.1)) z.2 (some .boolean)) : ∀ (q : Nat) {M : QM} {o0 : Nat} {o1 : Nat} {x2 : Int32}, kls o0 = 2 → kls o1 = 6 →  fX2_letsRefuse_b2 q M o0 o1 x2 = some z → V x y 3 M 2 [(0, .ref (ly_o y o0)), (1, .ref (ly_o y o1)), (2, .int x2)] [] := by
  intro q
  induction q with
  | zero =>
    intro M o0 o1 x2 ho0 ho1 hF
    rw [fX2_letsRefuse_b2] at hF
    cases hF
  | succ q ih =>
    intro M o0 o1 x2 ho0 ho1 hF
    rw [fX2_letsRefuse_b2] at hF
    refine v_iload_n (pc := 2) K dX2_letsRefuse_2 2 rfl ?_
    refine v_aload_n (pc := 3) K dX2_letsRefuse_3 0 rfl ?_
    refine gX2_clauses (pc := 4) K hy ho0 jn_X2 (List.mem_cons_of_mem _ jl_X2_46) dX2_letsRefuse_4 ?_
    refine v_icmp_ge (pc := 7) (tgt := 43) K dX2_letsRefuse_7 (by decide) hF (fun c8 hF => ?_) (fun c8 hF => ?_)
    · refine v_iconst (pc := 43) (v := 0) K dX2_letsRefuse_43 rfl ?_
      have hz := (Option.some.inj hF).symm
      subst hz
      exact v_zret (pc := 44) K hQ rfl dX2_letsRefuse_44
    · refine v_iload_n (pc := 10) K dX2_letsRefuse_10 2 rfl ?_
      refine v_bipush (pc := 11) (v := 14) K dX2_letsRefuse_11 rfl ?_
      refine v_icmp_ge (pc := 13) (tgt := 43) K dX2_letsRefuse_13 (by decide) hF (fun c7 hF => ?_) (fun c7 hF => ?_)
      · refine v_iconst (pc := 43) (v := 0) K dX2_letsRefuse_43 rfl ?_
        have hz := (Option.some.inj hF).symm
        subst hz
        exact v_zret (pc := 44) K hQ rfl dX2_letsRefuse_44
      · refine v_aload_n (pc := 16) K dX2_letsRefuse_16 0 rfl ?_
        refine gX2_sorts (pc := 17) K hy ho0 jn_X2 (List.mem_cons_of_mem _ jl_X2_11) dX2_letsRefuse_17 ?_
        refine v_iload_n (pc := 20) K dX2_letsRefuse_20 2 rfl ?_
        refine iX2_sorts (pc := 21) K hy ho0 hF dX2_letsRefuse_21 (fun hi1 hF => ?_)
        refine v_iconst (pc := 22) (v := 2) K dX2_letsRefuse_22 rfl ?_
        refine v_icmp_ne (pc := 23) (tgt := 37) K dX2_letsRefuse_23 (by decide) hF (fun c6 hF => ?_) (fun c6 hF => ?_)
        · exact bX2_letsRefuse_37 l K hy hQ ih ho0 ho1 hF
        · refine v_aload_n (pc := 26) K dX2_letsRefuse_26 0 rfl ?_
          refine v_iload_n (pc := 27) K dX2_letsRefuse_27 2 rfl ?_
          refine v_aload_n (pc := 28) K dX2_letsRefuse_28 1 rfl ?_
          obtain ⟨r3, M4, hc2, hF⟩ := q_bE hF
          refine v_callV (pc := 29) (ci := 2) (As := [.int x2, .ref (ly_o y o1)]) (rest := []) (st' := [.int r3]) (r := some (.int r3)) (M1 := M4) K (kX2_holds l K.2.2.2.2.2.2.1 hy ho0 ho1 hc2) (jg_V jl_X2_53 jw_i_X2_holds jw_s_X2_holds jw_n_X2 jw_c_X2_holds) rfl rfl rfl jd_X2_holds ⟨Nat.le_of_ble_eq_true rfl, Nat.le_of_ble_eq_true rfl⟩ rfl rfl (Nat.le_of_ble_eq_true rfl) ho0 (okc_0 hy (by decide)) rfl dX2_letsRefuse_29 rfl ?_
          refine v_if_eq (pc := 32) (tgt := 37) K dX2_letsRefuse_32 (by decide) hF (fun c5 hF => ?_) (fun c5 hF => ?_)
          · exact bX2_letsRefuse_37 l K hy hQ ih ho0 ho1 hF
          · refine v_iconst (pc := 35) (v := 1) K dX2_letsRefuse_35 rfl ?_
            have hz := (Option.some.inj hF).symm
            subst hz
            exact v_zret (pc := 36) K hQ rfl dX2_letsRefuse_36
def fX2_letsRefuse (M : QM) (o0 : Nat) (o1 : Nat) : Option (Int32 × QM) := (fX2_letsRefuse_b2 q_F M o0 o1 (0 : Int32))
set_option maxRecDepth 100000 in
set_option maxHeartbeats 4000000 in
theorem bX2_letsRefuse_0 {x : Cx} {y : Ly} (l : Launch) (K : VK x l rmX2_letsRefuse y 3 cX2_letsRefuse RX2 wqX2_letsRefuse) (hy : y.2.2.2.2 = 0) {z : Int32 × QM} (hQ : VQ x y (some (.int z.1)) z.2 (some .boolean)) {M : QM} {o0 : Nat} {o1 : Nat} (ho0 : kls o0 = 2) (ho1 : kls o1 = 6) (hF : fX2_letsRefuse M o0 o1 = some z) : V x y 3 M 0 [(0, .ref (ly_o y o0)), (1, .ref (ly_o y o1))] [] := by
  unfold fX2_letsRefuse at hF
  refine v_iconst (pc := 0) (v := 0) K dX2_letsRefuse_0 rfl ?_
  refine v_istore_n (pc := 1) (lv' := [(2, .int (0 : Int32)), (0, .ref (ly_o y o0)), (1, .ref (ly_o y o1))]) K dX2_letsRefuse_1 2 rfl (by decide) rfl ?_
  refine v_sub [1, 2, 0] rfl ?_
  exact bX2_letsRefuse_2 l K hy hQ q_F ho0 ho1 hF
set_option maxRecDepth 100000 in
set_option maxHeartbeats 4000000 in
theorem kX2_letsRefuse (l : Launch) {y : Ly} (hJ : ly_J y) (hy : y.2.2.2.2 = 0) {M M1 : QM} {r : Int32} {o0 : Nat} {o1 : Nat} (ho0 : kls o0 = 2) (ho1 : kls o1 = 6) (hF : fX2_letsRefuse M o0 o1 = some (r, M1)) : Met l yX2_letsRefuse wqX2_letsRefuse rmX2_letsRefuse (q_P y [.ref (ly_o y o0), .ref (ly_o y o1)] M) (q_E y (some (.int r)) M1) 0 0 (ly_A y) :=
  q_met (by decide) rfl hJ rfl rfl rfl (fun x K hQ => bX2_letsRefuse_0 l K hy (z := (r, M1)) hQ ho0 ho1 hF)
-- ===== X2_countOfBacks (I)I
theorem jd_X2_countOfBacks : yX2_countOfBacks.cls = RX2 ∧ yX2_countOfBacks.cls ≠ "java/lang/invoke/MethodHandle" ∧ yX2_countOfBacks.cls ≠ "java/lang/invoke/VarHandle" ∧ (parseMethodDescriptor yX2_countOfBacks.desc).map (fun d => d.parameters.length) = some 1 := by decide +kernel
abbrev wqX2_countOfBacks : List Cond := .code yX2_countOfBacks cX2_countOfBacks 4 (some .int) :: wsL_law
abbrev rmX2_countOfBacks : Room := { frames := 0, cells := 0, slots := 0, locals := 0 }
def fX2_countOfBacks_b36 (k4 : QM → Nat → Int32 → Int32 → Int32 → Option (Int32 × QM)) (M : QM) (o0 : Nat) (x1 : Int32) (x2 : Int32) (x3 : Int32) : Option (Int32 × QM) := (k4 M o0 x1 x2 (x3 + (1 : Int32)))
set_option maxRecDepth 100000 in
set_option maxHeartbeats 4000000 in
theorem bX2_countOfBacks_36 {x : Cx} {y : Ly} (l : Launch) (K : VK x l rmX2_countOfBacks y 4 cX2_countOfBacks RX2 wqX2_countOfBacks) (hy : y.2.2.2.2 = 0) {z : Int32 × QM} (hQ : VQ x y (some (.int z.1)) z.2 (some .int)) {k4 : QM → Nat → Int32 → Int32 → Int32 → Option (Int32 × QM)} (hk4 : ∀ {M : QM} {o0 : Nat} {x1 : Int32} {x2 : Int32} {x3 : Int32}, kls o0 = 2 → k4 M o0 x1 x2 x3 = some z → V x y 4 M 4 [(0, .ref (ly_o y o0)), (1, .int x1), (2, .int x2), (3, .int x3)] []) {M : QM} {o0 : Nat} {x1 : Int32} {x2 : Int32} {x3 : Int32} (ho0 : kls o0 = 2) (hF : fX2_countOfBacks_b36 k4 M o0 x1 x2 x3 = some z) : V x y 4 M 36 [(0, .ref (ly_o y o0)), (1, .int x1), (2, .int x2), (3, .int x3)] [] := by
  unfold fX2_countOfBacks_b36 at hF
  refine v_iinc (pc := 36) (v1 := x3 + (1 : Int32)) (lv' := [(3, .int (x3 + (1 : Int32))), (0, .ref (ly_o y o0)), (1, .int x1), (2, .int x2)]) K dX2_countOfBacks_36 3 rfl rfl (by decide) rfl ?_
  refine v_goto (pc := 39) (tgt := 4) K dX2_countOfBacks_39 (by decide) ?_
  refine v_sub [1, 2, 3, 0] rfl ?_
  exact hk4 ho0 hF
def fX2_countOfBacks_b4 : Nat → QM → Nat → Int32 → Int32 → Int32 → Option (Int32 × QM)
  | 0, _, _, _, _, _ => none
  | q + 1, M, o0, x1, x2, x3 => if (q_i M o0 8) ≤ x3 then some (x2, M) else if (14 : Int32) ≤ x3 then some (x2, M) else (if q_in x3 14 then if (q_a M o0 0 x3.toNatClampNeg) ≠ (1 : Int32) then (fX2_countOfBacks_b36 (fun M o0 x1 x2 x3 => fX2_countOfBacks_b4 q M o0 x1 x2 x3) M o0 x1 x2 x3) else if x1 ≤ x2 then (fX2_countOfBacks_b36 (fun M o0 x1 x2 x3 => fX2_countOfBacks_b4 q M o0 x1 x2 x3) M o0 x1 x2 x3) else (fX2_countOfBacks_b36 (fun M o0 x1 x2 x3 => fX2_countOfBacks_b4 q M o0 x1 x2 x3) M o0 x1 (x2 + (1 : Int32)) x3) else none)
set_option maxRecDepth 100000 in
set_option maxHeartbeats 4000000 in
theorem bX2_countOfBacks_4 {x : Cx} {y : Ly} (l : Launch) (K : VK x l rmX2_countOfBacks y 4 cX2_countOfBacks RX2 wqX2_countOfBacks) (hy : y.2.2.2.2 = 0) {z : Int32 × QM} (hQ : VQ x y (some (.int z.1)) z.2 (some .int)) : ∀ (q : Nat) {M : QM} {o0 : Nat} {x1 : Int32} {x2 : Int32} {x3 : Int32}, kls o0 = 2 →  fX2_countOfBacks_b4 q M o0 x1 x2 x3 = some z → V x y 4 M 4 [(0, .ref (ly_o y o0)), (1, .int x1), (2, .int x2), (3, .int x3)] [] := by
  intro q
  induction q with
  | zero =>
    intro M o0 x1 x2 x3 ho0 hF
    rw [fX2_countOfBacks_b4] at hF
    cases hF
  | succ q ih =>
    intro M o0 x1 x2 x3 ho0 hF
    rw [fX2_countOfBacks_b4] at hF
    refine v_iload_n (pc := 4) K dX2_countOfBacks_4 3 rfl ?_
    refine v_aload_n (pc := 5) K dX2_countOfBacks_5 0 rfl ?_
    refine gX2_clauses (pc := 6) K hy ho0 jn_X2 (List.mem_cons_of_mem _ jl_X2_46) dX2_countOfBacks_6 ?_
    refine v_icmp_ge (pc := 9) (tgt := 42) K dX2_countOfBacks_9 (by decide) hF (fun c5 hF => ?_) (fun c5 hF => ?_)
    · refine v_iload_n (pc := 42) K dX2_countOfBacks_42 2 rfl ?_
      have hz := (Option.some.inj hF).symm
      subst hz
      exact v_iret (pc := 43) K hQ dX2_countOfBacks_43
    · refine v_iload_n (pc := 12) K dX2_countOfBacks_12 3 rfl ?_
      refine v_bipush (pc := 13) (v := 14) K dX2_countOfBacks_13 rfl ?_
      refine v_icmp_ge (pc := 15) (tgt := 42) K dX2_countOfBacks_15 (by decide) hF (fun c4 hF => ?_) (fun c4 hF => ?_)
      · refine v_iload_n (pc := 42) K dX2_countOfBacks_42 2 rfl ?_
        have hz := (Option.some.inj hF).symm
        subst hz
        exact v_iret (pc := 43) K hQ dX2_countOfBacks_43
      · refine v_aload_n (pc := 18) K dX2_countOfBacks_18 0 rfl ?_
        refine gX2_sorts (pc := 19) K hy ho0 jn_X2 (List.mem_cons_of_mem _ jl_X2_11) dX2_countOfBacks_19 ?_
        refine v_iload_n (pc := 22) K dX2_countOfBacks_22 3 rfl ?_
        refine iX2_sorts (pc := 23) K hy ho0 hF dX2_countOfBacks_23 (fun hi1 hF => ?_)
        refine v_iconst (pc := 24) (v := 1) K dX2_countOfBacks_24 rfl ?_
        refine v_icmp_ne (pc := 25) (tgt := 36) K dX2_countOfBacks_25 (by decide) hF (fun c3 hF => ?_) (fun c3 hF => ?_)
        · exact bX2_countOfBacks_36 l K hy hQ ih ho0 hF
        · refine v_iload_n (pc := 28) K dX2_countOfBacks_28 2 rfl ?_
          refine v_iload_n (pc := 29) K dX2_countOfBacks_29 1 rfl ?_
          refine v_icmp_ge (pc := 30) (tgt := 36) K dX2_countOfBacks_30 (by decide) hF (fun c2 hF => ?_) (fun c2 hF => ?_)
          · exact bX2_countOfBacks_36 l K hy hQ ih ho0 hF
          · refine v_iinc (pc := 33) (v1 := x2 + (1 : Int32)) (lv' := [(2, .int (x2 + (1 : Int32))), (0, .ref (ly_o y o0)), (1, .int x1), (3, .int x3)]) K dX2_countOfBacks_33 2 rfl rfl (by decide) rfl ?_
            refine v_sub [1, 2, 0, 3] rfl ?_
            exact bX2_countOfBacks_36 l K hy hQ ih ho0 hF
def fX2_countOfBacks (M : QM) (o0 : Nat) (x1 : Int32) : Option (Int32 × QM) := (fX2_countOfBacks_b4 q_F M o0 x1 (0 : Int32) (0 : Int32))
set_option maxRecDepth 100000 in
set_option maxHeartbeats 4000000 in
theorem bX2_countOfBacks_0 {x : Cx} {y : Ly} (l : Launch) (K : VK x l rmX2_countOfBacks y 4 cX2_countOfBacks RX2 wqX2_countOfBacks) (hy : y.2.2.2.2 = 0) {z : Int32 × QM} (hQ : VQ x y (some (.int z.1)) z.2 (some .int)) {M : QM} {o0 : Nat} {x1 : Int32} (ho0 : kls o0 = 2) (hF : fX2_countOfBacks M o0 x1 = some z) : V x y 4 M 0 [(0, .ref (ly_o y o0)), (1, .int x1)] [] := by
  unfold fX2_countOfBacks at hF
  refine v_iconst (pc := 0) (v := 0) K dX2_countOfBacks_0 rfl ?_
  refine v_istore_n (pc := 1) (lv' := [(2, .int (0 : Int32)), (0, .ref (ly_o y o0)), (1, .int x1)]) K dX2_countOfBacks_1 2 rfl (by decide) rfl ?_
  refine v_iconst (pc := 2) (v := 0) K dX2_countOfBacks_2 rfl ?_
  refine v_istore_n (pc := 3) (lv' := [(3, .int (0 : Int32)), (2, .int (0 : Int32)), (0, .ref (ly_o y o0)), (1, .int x1)]) K dX2_countOfBacks_3 3 rfl (by decide) rfl ?_
  refine v_sub [2, 3, 1, 0] rfl ?_
  exact bX2_countOfBacks_4 l K hy hQ q_F ho0 hF
set_option maxRecDepth 100000 in
set_option maxHeartbeats 4000000 in
theorem kX2_countOfBacks (l : Launch) {y : Ly} (hJ : ly_J y) (hy : y.2.2.2.2 = 0) {M M1 : QM} {r : Int32} {o0 : Nat} {x1 : Int32} (ho0 : kls o0 = 2) (hF : fX2_countOfBacks M o0 x1 = some (r, M1)) : Met l yX2_countOfBacks wqX2_countOfBacks rmX2_countOfBacks (q_P y [.ref (ly_o y o0), .int x1] M) (q_E y (some (.int r)) M1) 0 0 (ly_A y) :=
  q_met (by decide) rfl hJ rfl rfl rfl (fun x K hQ => bX2_countOfBacks_0 l K hy (z := (r, M1)) hQ ho0 hF)
-- ===== X2_backClauses (I)I
theorem jd_X2_backClauses : yX2_backClauses.cls = RX2 ∧ yX2_backClauses.cls ≠ "java/lang/invoke/MethodHandle" ∧ yX2_backClauses.cls ≠ "java/lang/invoke/VarHandle" ∧ (parseMethodDescriptor yX2_backClauses.desc).map (fun d => d.parameters.length) = some 1 := by decide +kernel
abbrev wqX2_backClauses : List Cond := .code yX2_backClauses cX2_backClauses 5 (some .int) :: wsL_law
abbrev rmX2_backClauses : Room := { frames := 0, cells := 0, slots := 0, locals := 0 }
def fX2_backClauses_b48 (k7 : QM → Nat → Int32 → Int32 → Int32 → Int32 → Option (Int32 × QM)) (M : QM) (o0 : Nat) (x1 : Int32) (x2 : Int32) (x3 : Int32) (x4 : Int32) : Option (Int32 × QM) := (k7 M o0 x1 x2 x3 (x4 + (1 : Int32)))
set_option maxRecDepth 100000 in
set_option maxHeartbeats 4000000 in
theorem bX2_backClauses_48 {x : Cx} {y : Ly} (l : Launch) (K : VK x l rmX2_backClauses y 5 cX2_backClauses RX2 wqX2_backClauses) (hy : y.2.2.2.2 = 0) {z : Int32 × QM} (hQ : VQ x y (some (.int z.1)) z.2 (some .int)) {k7 : QM → Nat → Int32 → Int32 → Int32 → Int32 → Option (Int32 × QM)} (hk7 : ∀ {M : QM} {o0 : Nat} {x1 : Int32} {x2 : Int32} {x3 : Int32} {x4 : Int32}, kls o0 = 2 → k7 M o0 x1 x2 x3 x4 = some z → V x y 5 M 7 [(0, .ref (ly_o y o0)), (1, .int x1), (2, .int x2), (3, .int x3), (4, .int x4)] []) {M : QM} {o0 : Nat} {x1 : Int32} {x2 : Int32} {x3 : Int32} {x4 : Int32} (ho0 : kls o0 = 2) (hF : fX2_backClauses_b48 k7 M o0 x1 x2 x3 x4 = some z) : V x y 5 M 48 [(0, .ref (ly_o y o0)), (1, .int x1), (2, .int x2), (3, .int x3), (4, .int x4)] [] := by
  unfold fX2_backClauses_b48 at hF
  refine v_iinc (pc := 48) (v1 := x4 + (1 : Int32)) (lv' := [(4, .int (x4 + (1 : Int32))), (0, .ref (ly_o y o0)), (1, .int x1), (2, .int x2), (3, .int x3)]) K dX2_backClauses_48 4 rfl rfl (by decide) rfl ?_
  refine v_goto (pc := 51) (tgt := 7) K dX2_backClauses_51 (by decide) ?_
  refine v_sub [1, 2, 3, 4, 0] rfl ?_
  exact hk7 ho0 hF
def fX2_backClauses_b7 : Nat → QM → Nat → Int32 → Int32 → Int32 → Int32 → Option (Int32 × QM)
  | 0, _, _, _, _, _, _ => none
  | q + 1, M, o0, x1, x2, x3, x4 => if (q_i M o0 8) ≤ x4 then some (x2, M) else if (14 : Int32) ≤ x4 then some (x2, M) else (if q_in x4 14 then if (q_a M o0 0 x4.toNatClampNeg) ≠ (1 : Int32) then (fX2_backClauses_b48 (fun M o0 x1 x2 x3 x4 => fX2_backClauses_b7 q M o0 x1 x2 x3 x4) M o0 x1 x2 x3 x4) else (q_t (((x1 >>> (x3 &&& (31 : Int32))) &&& (1 : Int32)) <<< (x4 &&& (31 : Int32))) fun v2 => (fX2_backClauses_b48 (fun M o0 x1 x2 x3 x4 => fX2_backClauses_b7 q M o0 x1 x2 x3 x4) M o0 x1 (x2 ||| v2) (x3 + (1 : Int32)) x4)) else none)
set_option maxRecDepth 100000 in
set_option maxHeartbeats 4000000 in
theorem bX2_backClauses_7 {x : Cx} {y : Ly} (l : Launch) (K : VK x l rmX2_backClauses y 5 cX2_backClauses RX2 wqX2_backClauses) (hy : y.2.2.2.2 = 0) {z : Int32 × QM} (hQ : VQ x y (some (.int z.1)) z.2 (some .int)) : ∀ (q : Nat) {M : QM} {o0 : Nat} {x1 : Int32} {x2 : Int32} {x3 : Int32} {x4 : Int32}, kls o0 = 2 →  fX2_backClauses_b7 q M o0 x1 x2 x3 x4 = some z → V x y 5 M 7 [(0, .ref (ly_o y o0)), (1, .int x1), (2, .int x2), (3, .int x3), (4, .int x4)] [] := by
  intro q
  induction q with
  | zero =>
    intro M o0 x1 x2 x3 x4 ho0 hF
    rw [fX2_backClauses_b7] at hF
    cases hF
  | succ q ih =>
    intro M o0 x1 x2 x3 x4 ho0 hF
    rw [fX2_backClauses_b7] at hF
    refine v_iload (pc := 7) K dX2_backClauses_7 4 rfl ?_
    refine v_aload_n (pc := 9) K dX2_backClauses_9 0 rfl ?_
    refine gX2_clauses (pc := 10) K hy ho0 jn_X2 (List.mem_cons_of_mem _ jl_X2_46) dX2_backClauses_10 ?_
    refine v_icmp_ge (pc := 13) (tgt := 54) K dX2_backClauses_13 (by decide) hF (fun c5 hF => ?_) (fun c5 hF => ?_)
    · refine v_iload_n (pc := 54) K dX2_backClauses_54 2 rfl ?_
      have hz := (Option.some.inj hF).symm
      subst hz
      exact v_iret (pc := 55) K hQ dX2_backClauses_55
    · refine v_iload (pc := 16) K dX2_backClauses_16 4 rfl ?_
      refine v_bipush (pc := 18) (v := 14) K dX2_backClauses_18 rfl ?_
      refine v_icmp_ge (pc := 20) (tgt := 54) K dX2_backClauses_20 (by decide) hF (fun c4 hF => ?_) (fun c4 hF => ?_)
      · refine v_iload_n (pc := 54) K dX2_backClauses_54 2 rfl ?_
        have hz := (Option.some.inj hF).symm
        subst hz
        exact v_iret (pc := 55) K hQ dX2_backClauses_55
      · refine v_aload_n (pc := 23) K dX2_backClauses_23 0 rfl ?_
        refine gX2_sorts (pc := 24) K hy ho0 jn_X2 (List.mem_cons_of_mem _ jl_X2_11) dX2_backClauses_24 ?_
        refine v_iload (pc := 27) K dX2_backClauses_27 4 rfl ?_
        refine iX2_sorts (pc := 29) K hy ho0 hF dX2_backClauses_29 (fun hi1 hF => ?_)
        refine v_iconst (pc := 30) (v := 1) K dX2_backClauses_30 rfl ?_
        refine v_icmp_ne (pc := 31) (tgt := 48) K dX2_backClauses_31 (by decide) hF (fun c3 hF => ?_) (fun c3 hF => ?_)
        · exact bX2_backClauses_48 l K hy hQ ih ho0 hF
        · refine v_iload_n (pc := 34) K dX2_backClauses_34 2 rfl ?_
          refine v_iload_n (pc := 35) K dX2_backClauses_35 1 rfl ?_
          refine v_iload_n (pc := 36) K dX2_backClauses_36 3 rfl ?_
          refine v_ishr (pc := 37) K dX2_backClauses_37 ?_
          refine v_iconst (pc := 38) (v := 1) K dX2_backClauses_38 rfl ?_
          refine v_iand (pc := 39) K dX2_backClauses_39 ?_
          refine v_iload (pc := 40) K dX2_backClauses_40 4 rfl ?_
          refine v_ishl (pc := 42) K dX2_backClauses_42 ?_
          refine v_nmI hF (fun v2 hF => ?_)
          refine v_ior (pc := 43) K dX2_backClauses_43 ?_
          refine v_istore_n (pc := 44) (lv' := [(2, .int (x2 ||| v2)), (0, .ref (ly_o y o0)), (1, .int x1), (3, .int x3), (4, .int x4)]) K dX2_backClauses_44 2 rfl (by decide) rfl ?_
          refine v_iinc (pc := 45) (v1 := x3 + (1 : Int32)) (lv' := [(3, .int (x3 + (1 : Int32))), (2, .int (x2 ||| v2)), (0, .ref (ly_o y o0)), (1, .int x1), (4, .int x4)]) K dX2_backClauses_45 3 rfl rfl (by decide) rfl ?_
          refine v_sub [2, 3, 1, 0, 4] rfl ?_
          exact bX2_backClauses_48 l K hy hQ ih ho0 hF
def fX2_backClauses (M : QM) (o0 : Nat) (x1 : Int32) : Option (Int32 × QM) := (fX2_backClauses_b7 q_F M o0 x1 (0 : Int32) (0 : Int32) (0 : Int32))
set_option maxRecDepth 100000 in
set_option maxHeartbeats 4000000 in
theorem bX2_backClauses_0 {x : Cx} {y : Ly} (l : Launch) (K : VK x l rmX2_backClauses y 5 cX2_backClauses RX2 wqX2_backClauses) (hy : y.2.2.2.2 = 0) {z : Int32 × QM} (hQ : VQ x y (some (.int z.1)) z.2 (some .int)) {M : QM} {o0 : Nat} {x1 : Int32} (ho0 : kls o0 = 2) (hF : fX2_backClauses M o0 x1 = some z) : V x y 5 M 0 [(0, .ref (ly_o y o0)), (1, .int x1)] [] := by
  unfold fX2_backClauses at hF
  refine v_iconst (pc := 0) (v := 0) K dX2_backClauses_0 rfl ?_
  refine v_istore_n (pc := 1) (lv' := [(2, .int (0 : Int32)), (0, .ref (ly_o y o0)), (1, .int x1)]) K dX2_backClauses_1 2 rfl (by decide) rfl ?_
  refine v_iconst (pc := 2) (v := 0) K dX2_backClauses_2 rfl ?_
  refine v_istore_n (pc := 3) (lv' := [(3, .int (0 : Int32)), (2, .int (0 : Int32)), (0, .ref (ly_o y o0)), (1, .int x1)]) K dX2_backClauses_3 3 rfl (by decide) rfl ?_
  refine v_iconst (pc := 4) (v := 0) K dX2_backClauses_4 rfl ?_
  refine v_istore (pc := 5) (lv' := [(4, .int (0 : Int32)), (3, .int (0 : Int32)), (2, .int (0 : Int32)), (0, .ref (ly_o y o0)), (1, .int x1)]) K 4 dX2_backClauses_5 (by decide) rfl ?_
  refine v_sub [3, 4, 2, 1, 0] rfl ?_
  exact bX2_backClauses_7 l K hy hQ q_F ho0 hF
set_option maxRecDepth 100000 in
set_option maxHeartbeats 4000000 in
theorem kX2_backClauses (l : Launch) {y : Ly} (hJ : ly_J y) (hy : y.2.2.2.2 = 0) {M M1 : QM} {r : Int32} {o0 : Nat} {x1 : Int32} (ho0 : kls o0 = 2) (hF : fX2_backClauses M o0 x1 = some (r, M1)) : Met l yX2_backClauses wqX2_backClauses rmX2_backClauses (q_P y [.ref (ly_o y o0), .int x1] M) (q_E y (some (.int r)) M1) 0 0 (ly_A y) :=
  q_met (by decide) rfl hJ rfl rfl rfl (fun x K hQ => bX2_backClauses_0 l K hy (z := (r, M1)) hQ ho0 hF)
