-- ===== X1_addPerson (III)I
theorem jd_X1_addPerson : yX1_addPerson.cls = RX1 ∧ yX1_addPerson.cls ≠ "java/lang/invoke/MethodHandle" ∧ yX1_addPerson.cls ≠ "java/lang/invoke/VarHandle" ∧ (parseMethodDescriptor yX1_addPerson.desc).map (fun d => d.parameters.length) = some 3 := by decide +kernel
abbrev wqX1_addPerson : List Cond := .code yX1_addPerson cX1_addPerson 5 (some .int) :: wsL_law
abbrev rmX1_addPerson : Room := { frames := 0, cells := 0, slots := 0, locals := 0 }
def fX1_addPerson (M : QM) (o0 : Nat) (x1 : Int32) (x2 : Int32) (x3 : Int32) : Option (Int32 × QM) := if (q_i M o0 6) < (0 : Int32) then some ((-1 : Int32), M) else if (q_i M o0 6) < (12 : Int32) then (if q_in (q_i M o0 6) 12 then (q_t (p_a M o0 0 (q_i M o0 6).toNatClampNeg x1) fun M2 => (if q_in (q_i M o0 6) 12 then (q_t (p_a M2 o0 1 (q_i M o0 6).toNatClampNeg x2) fun M4 => (if q_in (q_i M o0 6) 12 then (q_t (p_a M4 o0 2 (q_i M o0 6).toNatClampNeg x3) fun M6 => (if q_in (q_i M o0 6) 12 then (q_t (p_a M6 o0 3 (q_i M o0 6).toNatClampNeg (-1 : Int32)) fun M8 => (if q_in (q_i M o0 6) 12 then (q_t (p_a M8 o0 4 (q_i M o0 6).toNatClampNeg (0 : Int32)) fun M10 => (q_t (p_i M10 o0 6 ((q_i M10 o0 6) + (1 : Int32))) fun M11 => some (q_i M o0 6, M11))) else none)) else none)) else none)) else none)) else none) else some ((-1 : Int32), M)
set_option maxRecDepth 100000 in
set_option maxHeartbeats 4000000 in
theorem bX1_addPerson_0 {x : Cx} {y : Ly} (l : Launch) (K : VK x l rmX1_addPerson y 5 cX1_addPerson RX1 wqX1_addPerson) (hy : y.2.2.2.2 = 0) {z : Int32 × QM} (hQ : VQ x y (some (.int z.1)) z.2 (some .int)) {M : QM} {o0 : Nat} {x1 : Int32} {x2 : Int32} {x3 : Int32} (ho0 : kls o0 = 1) (hF : fX1_addPerson M o0 x1 x2 x3 = some z) : V x y 5 M 0 [(0, .ref (ly_o y o0)), (1, .int x1), (2, .int x2), (3, .int x3)] [] := by
  unfold fX1_addPerson at hF
  refine v_aload_n (pc := 0) K dX1_addPerson_0 0 rfl ?_
  refine gX1_peopleCount (pc := 1) K hy ho0 jn_X1 (List.mem_cons_of_mem _ jl_X1_34) dX1_addPerson_1 ?_
  refine v_istore (pc := 4) (lv' := [(4, .int (q_i M o0 6)), (0, .ref (ly_o y o0)), (1, .int x1), (2, .int x2), (3, .int x3)]) K 4 dX1_addPerson_4 (by decide) rfl ?_
  refine v_iload (pc := 6) K dX1_addPerson_6 0 rfl ?_
  refine v_if_lt (pc := 8) (tgt := 18) K dX1_addPerson_8 (by decide) hF (fun c13 hF => ?_) (fun c13 hF => ?_)
  · refine v_iconst (pc := 18) (v := -1) K dX1_addPerson_18 rfl ?_
    have hz := (Option.some.inj hF).symm
    subst hz
    exact v_iret (pc := 19) K hQ dX1_addPerson_19
  · refine v_iload (pc := 11) K dX1_addPerson_11 0 rfl ?_
    refine v_bipush (pc := 13) (v := 12) K dX1_addPerson_13 rfl ?_
    refine v_icmp_lt (pc := 15) (tgt := 20) K dX1_addPerson_15 (by decide) hF (fun c12 hF => ?_) (fun c12 hF => ?_)
    · refine v_aload_n (pc := 20) K dX1_addPerson_20 1 rfl ?_
      refine gX1_ages (pc := 21) K hy ho0 jn_X1 (List.mem_cons_of_mem _ jl_X1_9) dX1_addPerson_21 ?_
      refine v_iload (pc := 24) K dX1_addPerson_24 0 rfl ?_
      refine v_iload_n (pc := 26) K dX1_addPerson_26 2 rfl ?_
      refine uX1_ages (pc := 27) K hy ho0 hF dX1_addPerson_27 (fun hi1 hF => ?_)
      refine v_nmM hF (fun M2 hF => ?_)
      refine v_aload_n (pc := 28) K dX1_addPerson_28 1 rfl ?_
      refine gX1_ranks (pc := 29) K hy ho0 jn_X1 (List.mem_cons_of_mem _ jl_X1_15) dX1_addPerson_29 ?_
      refine v_iload (pc := 32) K dX1_addPerson_32 0 rfl ?_
      refine v_iload_n (pc := 34) K dX1_addPerson_34 3 rfl ?_
      refine uX1_ranks (pc := 35) K hy ho0 hF dX1_addPerson_35 (fun hi3 hF => ?_)
      refine v_nmM hF (fun M4 hF => ?_)
      refine v_aload_n (pc := 36) K dX1_addPerson_36 1 rfl ?_
      refine gX1_houses (pc := 37) K hy ho0 jn_X1 (List.mem_cons_of_mem _ jl_X1_18) dX1_addPerson_37 ?_
      refine v_iload (pc := 40) K dX1_addPerson_40 0 rfl ?_
      refine v_iload_n (pc := 42) K dX1_addPerson_42 4 rfl ?_
      refine uX1_houses (pc := 43) K hy ho0 hF dX1_addPerson_43 (fun hi5 hF => ?_)
      refine v_nmM hF (fun M6 hF => ?_)
      refine v_aload_n (pc := 44) K dX1_addPerson_44 1 rfl ?_
      refine gX1_kept (pc := 45) K hy ho0 jn_X1 (List.mem_cons_of_mem _ jl_X1_21) dX1_addPerson_45 ?_
      refine v_iload (pc := 48) K dX1_addPerson_48 0 rfl ?_
      refine v_iconst (pc := 50) (v := -1) K dX1_addPerson_50 rfl ?_
      refine uX1_kept (pc := 51) K hy ho0 hF dX1_addPerson_51 (fun hi7 hF => ?_)
      refine v_nmM hF (fun M8 hF => ?_)
      refine v_aload_n (pc := 52) K dX1_addPerson_52 1 rfl ?_
      refine gX1_owing (pc := 53) K hy ho0 jn_X1 (List.mem_cons_of_mem _ jl_X1_24) dX1_addPerson_53 ?_
      refine v_iload (pc := 56) K dX1_addPerson_56 0 rfl ?_
      refine v_iconst (pc := 58) (v := 0) K dX1_addPerson_58 rfl ?_
      refine uX1_owing (pc := 59) K hy ho0 hF dX1_addPerson_59 (fun hi9 hF => ?_)
      refine v_nmM hF (fun M10 hF => ?_)
      refine v_aload_n (pc := 60) K dX1_addPerson_60 1 rfl ?_
      refine v_dup (pc := 61) K dX1_addPerson_61 rfl ?_
      refine gX1_peopleCount (pc := 62) K hy ho0 jn_X1 (List.mem_cons_of_mem _ jl_X1_34) dX1_addPerson_62 ?_
      refine v_iconst (pc := 65) (v := 1) K dX1_addPerson_65 rfl ?_
      refine v_iadd (pc := 66) K dX1_addPerson_66 ?_
      refine pX1_peopleCount (pc := 67) K hy ho0 jn_X1 (List.mem_cons_of_mem _ jl_X1_34) dX1_addPerson_67 ?_
      refine v_nmM hF (fun M11 hF => ?_)
      refine v_iload (pc := 70) K dX1_addPerson_70 0 rfl ?_
      have hz := (Option.some.inj hF).symm
      subst hz
      exact v_iret (pc := 72) K hQ dX1_addPerson_72
    · refine v_iconst (pc := 18) (v := -1) K dX1_addPerson_18 rfl ?_
      have hz := (Option.some.inj hF).symm
      subst hz
      exact v_iret (pc := 19) K hQ dX1_addPerson_19
set_option maxRecDepth 100000 in
set_option maxHeartbeats 4000000 in
theorem kX1_addPerson (l : Launch) {y : Ly} (hJ : ly_J y) (hy : y.2.2.2.2 = 0) {M M1 : QM} {r : Int32} {o0 : Nat} {x1 : Int32} {x2 : Int32} {x3 : Int32} (ho0 : kls o0 = 1) (hF : fX1_addPerson M o0 x1 x2 x3 = some (r, M1)) : Met l yX1_addPerson wqX1_addPerson rmX1_addPerson (q_P y [.ref (ly_o y o0), .int x1, .int x2, .int x3] M) (q_E y (some (.int r)) M1) 0 0 (ly_A y) :=
  q_met (by decide) rfl hJ rfl rfl rfl (fun x K hQ => bX1_addPerson_0 l K hy (z := (r, M1)) hQ ho0 hF)
-- ===== X1_hasPerson (I)Z
theorem jd_X1_hasPerson : yX1_hasPerson.cls = RX1 ∧ yX1_hasPerson.cls ≠ "java/lang/invoke/MethodHandle" ∧ yX1_hasPerson.cls ≠ "java/lang/invoke/VarHandle" ∧ (parseMethodDescriptor yX1_hasPerson.desc).map (fun d => d.parameters.length) = some 1 := by decide +kernel
abbrev wqX1_hasPerson : List Cond := .code yX1_hasPerson cX1_hasPerson 2 (some .boolean) :: wsL_law
abbrev rmX1_hasPerson : Room := { frames := 0, cells := 0, slots := 0, locals := 0 }
def fX1_hasPerson (M : QM) (o0 : Nat) (x1 : Int32) : Option (Int32 × QM) := if x1 < (0 : Int32) then some ((0 : Int32), M) else if (q_i M o0 6) ≤ x1 then some ((0 : Int32), M) else if (12 : Int32) ≤ x1 then some ((0 : Int32), M) else some ((1 : Int32), M)
set_option maxRecDepth 100000 in
set_option maxHeartbeats 4000000 in
theorem bX1_hasPerson_0 {x : Cx} {y : Ly} (l : Launch) (K : VK x l rmX1_hasPerson y 2 cX1_hasPerson RX1 wqX1_hasPerson) (hy : y.2.2.2.2 = 0) {z : Int32 × QM} (hQ : VQ x y (some (.int z.1)) z.2 (some .boolean)) {M : QM} {o0 : Nat} {x1 : Int32} (ho0 : kls o0 = 1) (hF : fX1_hasPerson M o0 x1 = some z) : V x y 2 M 0 [(0, .ref (ly_o y o0)), (1, .int x1)] [] := by
  unfold fX1_hasPerson at hF
  refine v_iload_n (pc := 0) K dX1_hasPerson_0 1 rfl ?_
  refine v_if_lt (pc := 1) (tgt := 22) K dX1_hasPerson_1 (by decide) hF (fun c3 hF => ?_) (fun c3 hF => ?_)
  · refine v_iconst (pc := 22) (v := 0) K dX1_hasPerson_22 rfl ?_
    have hz := (Option.some.inj hF).symm
    subst hz
    exact v_zret (pc := 23) K hQ rfl dX1_hasPerson_23
  · refine v_iload_n (pc := 4) K dX1_hasPerson_4 1 rfl ?_
    refine v_aload_n (pc := 5) K dX1_hasPerson_5 0 rfl ?_
    refine gX1_peopleCount (pc := 6) K hy ho0 jn_X1 (List.mem_cons_of_mem _ jl_X1_34) dX1_hasPerson_6 ?_
    refine v_icmp_ge (pc := 9) (tgt := 22) K dX1_hasPerson_9 (by decide) hF (fun c2 hF => ?_) (fun c2 hF => ?_)
    · refine v_iconst (pc := 22) (v := 0) K dX1_hasPerson_22 rfl ?_
      have hz := (Option.some.inj hF).symm
      subst hz
      exact v_zret (pc := 23) K hQ rfl dX1_hasPerson_23
    · refine v_iload_n (pc := 12) K dX1_hasPerson_12 1 rfl ?_
      refine v_bipush (pc := 13) (v := 12) K dX1_hasPerson_13 rfl ?_
      refine v_icmp_ge (pc := 15) (tgt := 22) K dX1_hasPerson_15 (by decide) hF (fun c1 hF => ?_) (fun c1 hF => ?_)
      · refine v_iconst (pc := 22) (v := 0) K dX1_hasPerson_22 rfl ?_
        have hz := (Option.some.inj hF).symm
        subst hz
        exact v_zret (pc := 23) K hQ rfl dX1_hasPerson_23
      · refine v_iconst (pc := 18) (v := 1) K dX1_hasPerson_18 rfl ?_
        refine v_goto (pc := 19) (tgt := 23) K dX1_hasPerson_19 (by decide) ?_
        have hz := (Option.some.inj hF).symm
        subst hz
        exact v_zret (pc := 23) K hQ rfl dX1_hasPerson_23
set_option maxRecDepth 100000 in
set_option maxHeartbeats 4000000 in
theorem kX1_hasPerson (l : Launch) {y : Ly} (hJ : ly_J y) (hy : y.2.2.2.2 = 0) {M M1 : QM} {r : Int32} {o0 : Nat} {x1 : Int32} (ho0 : kls o0 = 1) (hF : fX1_hasPerson M o0 x1 = some (r, M1)) : Met l yX1_hasPerson wqX1_hasPerson rmX1_hasPerson (q_P y [.ref (ly_o y o0), .int x1] M) (q_E y (some (.int r)) M1) 0 0 (ly_A y) :=
  q_met (by decide) rfl hJ rfl rfl rfl (fun x K hQ => bX1_hasPerson_0 l K hy (z := (r, M1)) hQ ho0 hF)
-- ===== X1_ageOf (I)I
theorem jd_X1_ageOf : yX1_ageOf.cls = RX1 ∧ yX1_ageOf.cls ≠ "java/lang/invoke/MethodHandle" ∧ yX1_ageOf.cls ≠ "java/lang/invoke/VarHandle" ∧ (parseMethodDescriptor yX1_ageOf.desc).map (fun d => d.parameters.length) = some 1 := by decide +kernel
abbrev wqX1_ageOf : List Cond := .code yX1_ageOf cX1_ageOf 2 (some .int) :: wsL_law
abbrev rmX1_ageOf : Room := { frames := 1, cells := 0, slots := 0, locals := 21 }
def fX1_ageOf (M : QM) (o0 : Nat) (x1 : Int32) : Option (Int32 × QM) := (q_b (fX1_hasPerson M o0 x1) fun r2 M3 => if r2 = (0 : Int32) then some ((0 : Int32), M3) else (if q_in x1 12 then some (q_a M3 o0 0 x1.toNatClampNeg, M3) else none))
set_option maxRecDepth 100000 in
set_option maxHeartbeats 4000000 in
theorem bX1_ageOf_0 {x : Cx} {y : Ly} (l : Launch) (K : VK x l rmX1_ageOf y 2 cX1_ageOf RX1 wqX1_ageOf) (hy : y.2.2.2.2 = 0) {z : Int32 × QM} (hQ : VQ x y (some (.int z.1)) z.2 (some .int)) {M : QM} {o0 : Nat} {x1 : Int32} (ho0 : kls o0 = 1) (hF : fX1_ageOf M o0 x1 = some z) : V x y 2 M 0 [(0, .ref (ly_o y o0)), (1, .int x1)] [] := by
  unfold fX1_ageOf at hF
  refine v_aload_n (pc := 0) K dX1_ageOf_0 0 rfl ?_
  refine v_iload_n (pc := 1) K dX1_ageOf_1 1 rfl ?_
  obtain ⟨r2, M3, hc1, hF⟩ := q_bE hF
  refine v_callV (pc := 2) (ci := 1) (As := [.int x1]) (rest := []) (st' := [.int r2]) (r := some (.int r2)) (M1 := M3) K (kX1_hasPerson l K.2.2.2.2.2.2.1 hy ho0 hc1) (jg_V jl_X1_38 jw_i_X1_hasPerson jw_s_X1_hasPerson jw_n_X1 jw_c_X1_hasPerson) rfl rfl rfl jd_X1_hasPerson ⟨Nat.le_of_ble_eq_true rfl, Nat.le_of_ble_eq_true rfl⟩ rfl rfl (Nat.le_of_ble_eq_true rfl) ho0 (okc_0 hy (by decide)) rfl dX1_ageOf_2 rfl ?_
  refine v_if_eq (pc := 5) (tgt := 17) K dX1_ageOf_5 (by decide) hF (fun c5 hF => ?_) (fun c5 hF => ?_)
  · refine v_iconst (pc := 17) (v := 0) K dX1_ageOf_17 rfl ?_
    have hz := (Option.some.inj hF).symm
    subst hz
    exact v_iret (pc := 18) K hQ dX1_ageOf_18
  · refine v_aload_n (pc := 8) K dX1_ageOf_8 0 rfl ?_
    refine gX1_ages (pc := 9) K hy ho0 jn_X1 (List.mem_cons_of_mem _ jl_X1_9) dX1_ageOf_9 ?_
    refine v_iload_n (pc := 12) K dX1_ageOf_12 1 rfl ?_
    refine iX1_ages (pc := 13) K hy ho0 hF dX1_ageOf_13 (fun hi4 hF => ?_)
    refine v_goto (pc := 14) (tgt := 18) K dX1_ageOf_14 (by decide) ?_
    have hz := (Option.some.inj hF).symm
    subst hz
    exact v_iret (pc := 18) K hQ dX1_ageOf_18
set_option maxRecDepth 100000 in
set_option maxHeartbeats 4000000 in
theorem kX1_ageOf (l : Launch) {y : Ly} (hJ : ly_J y) (hy : y.2.2.2.2 = 0) {M M1 : QM} {r : Int32} {o0 : Nat} {x1 : Int32} (ho0 : kls o0 = 1) (hF : fX1_ageOf M o0 x1 = some (r, M1)) : Met l yX1_ageOf wqX1_ageOf rmX1_ageOf (q_P y [.ref (ly_o y o0), .int x1] M) (q_E y (some (.int r)) M1) 0 0 (ly_A y) :=
  q_met (by decide) rfl hJ rfl rfl rfl (fun x K hQ => bX1_ageOf_0 l K hy (z := (r, M1)) hQ ho0 hF)
-- ===== X1_rankOf (I)I
theorem jd_X1_rankOf : yX1_rankOf.cls = RX1 ∧ yX1_rankOf.cls ≠ "java/lang/invoke/MethodHandle" ∧ yX1_rankOf.cls ≠ "java/lang/invoke/VarHandle" ∧ (parseMethodDescriptor yX1_rankOf.desc).map (fun d => d.parameters.length) = some 1 := by decide +kernel
abbrev wqX1_rankOf : List Cond := .code yX1_rankOf cX1_rankOf 2 (some .int) :: wsL_law
abbrev rmX1_rankOf : Room := { frames := 1, cells := 0, slots := 0, locals := 21 }
def fX1_rankOf (M : QM) (o0 : Nat) (x1 : Int32) : Option (Int32 × QM) := (q_b (fX1_hasPerson M o0 x1) fun r2 M3 => if r2 = (0 : Int32) then some ((0 : Int32), M3) else (if q_in x1 12 then some (q_a M3 o0 1 x1.toNatClampNeg, M3) else none))
set_option maxRecDepth 100000 in
set_option maxHeartbeats 4000000 in
theorem bX1_rankOf_0 {x : Cx} {y : Ly} (l : Launch) (K : VK x l rmX1_rankOf y 2 cX1_rankOf RX1 wqX1_rankOf) (hy : y.2.2.2.2 = 0) {z : Int32 × QM} (hQ : VQ x y (some (.int z.1)) z.2 (some .int)) {M : QM} {o0 : Nat} {x1 : Int32} (ho0 : kls o0 = 1) (hF : fX1_rankOf M o0 x1 = some z) : V x y 2 M 0 [(0, .ref (ly_o y o0)), (1, .int x1)] [] := by
  unfold fX1_rankOf at hF
  refine v_aload_n (pc := 0) K dX1_rankOf_0 0 rfl ?_
  refine v_iload_n (pc := 1) K dX1_rankOf_1 1 rfl ?_
  obtain ⟨r2, M3, hc1, hF⟩ := q_bE hF
  refine v_callV (pc := 2) (ci := 1) (As := [.int x1]) (rest := []) (st' := [.int r2]) (r := some (.int r2)) (M1 := M3) K (kX1_hasPerson l K.2.2.2.2.2.2.1 hy ho0 hc1) (jg_V jl_X1_38 jw_i_X1_hasPerson jw_s_X1_hasPerson jw_n_X1 jw_c_X1_hasPerson) rfl rfl rfl jd_X1_hasPerson ⟨Nat.le_of_ble_eq_true rfl, Nat.le_of_ble_eq_true rfl⟩ rfl rfl (Nat.le_of_ble_eq_true rfl) ho0 (okc_0 hy (by decide)) rfl dX1_rankOf_2 rfl ?_
  refine v_if_eq (pc := 5) (tgt := 17) K dX1_rankOf_5 (by decide) hF (fun c5 hF => ?_) (fun c5 hF => ?_)
  · refine v_iconst (pc := 17) (v := 0) K dX1_rankOf_17 rfl ?_
    have hz := (Option.some.inj hF).symm
    subst hz
    exact v_iret (pc := 18) K hQ dX1_rankOf_18
  · refine v_aload_n (pc := 8) K dX1_rankOf_8 0 rfl ?_
    refine gX1_ranks (pc := 9) K hy ho0 jn_X1 (List.mem_cons_of_mem _ jl_X1_15) dX1_rankOf_9 ?_
    refine v_iload_n (pc := 12) K dX1_rankOf_12 1 rfl ?_
    refine iX1_ranks (pc := 13) K hy ho0 hF dX1_rankOf_13 (fun hi4 hF => ?_)
    refine v_goto (pc := 14) (tgt := 18) K dX1_rankOf_14 (by decide) ?_
    have hz := (Option.some.inj hF).symm
    subst hz
    exact v_iret (pc := 18) K hQ dX1_rankOf_18
set_option maxRecDepth 100000 in
set_option maxHeartbeats 4000000 in
theorem kX1_rankOf (l : Launch) {y : Ly} (hJ : ly_J y) (hy : y.2.2.2.2 = 0) {M M1 : QM} {r : Int32} {o0 : Nat} {x1 : Int32} (ho0 : kls o0 = 1) (hF : fX1_rankOf M o0 x1 = some (r, M1)) : Met l yX1_rankOf wqX1_rankOf rmX1_rankOf (q_P y [.ref (ly_o y o0), .int x1] M) (q_E y (some (.int r)) M1) 0 0 (ly_A y) :=
  q_met (by decide) rfl hJ rfl rfl rfl (fun x K hQ => bX1_rankOf_0 l K hy (z := (r, M1)) hQ ho0 hF)
-- ===== X1_houseOf (I)I
theorem jd_X1_houseOf : yX1_houseOf.cls = RX1 ∧ yX1_houseOf.cls ≠ "java/lang/invoke/MethodHandle" ∧ yX1_houseOf.cls ≠ "java/lang/invoke/VarHandle" ∧ (parseMethodDescriptor yX1_houseOf.desc).map (fun d => d.parameters.length) = some 1 := by decide +kernel
abbrev wqX1_houseOf : List Cond := .code yX1_houseOf cX1_houseOf 2 (some .int) :: wsL_law
abbrev rmX1_houseOf : Room := { frames := 1, cells := 0, slots := 0, locals := 21 }
def fX1_houseOf (M : QM) (o0 : Nat) (x1 : Int32) : Option (Int32 × QM) := (q_b (fX1_hasPerson M o0 x1) fun r2 M3 => if r2 = (0 : Int32) then some ((0 : Int32), M3) else (if q_in x1 12 then some (q_a M3 o0 2 x1.toNatClampNeg, M3) else none))
set_option maxRecDepth 100000 in
set_option maxHeartbeats 4000000 in
theorem bX1_houseOf_0 {x : Cx} {y : Ly} (l : Launch) (K : VK x l rmX1_houseOf y 2 cX1_houseOf RX1 wqX1_houseOf) (hy : y.2.2.2.2 = 0) {z : Int32 × QM} (hQ : VQ x y (some (.int z.1)) z.2 (some .int)) {M : QM} {o0 : Nat} {x1 : Int32} (ho0 : kls o0 = 1) (hF : fX1_houseOf M o0 x1 = some z) : V x y 2 M 0 [(0, .ref (ly_o y o0)), (1, .int x1)] [] := by
  unfold fX1_houseOf at hF
  refine v_aload_n (pc := 0) K dX1_houseOf_0 0 rfl ?_
  refine v_iload_n (pc := 1) K dX1_houseOf_1 1 rfl ?_
  obtain ⟨r2, M3, hc1, hF⟩ := q_bE hF
  refine v_callV (pc := 2) (ci := 1) (As := [.int x1]) (rest := []) (st' := [.int r2]) (r := some (.int r2)) (M1 := M3) K (kX1_hasPerson l K.2.2.2.2.2.2.1 hy ho0 hc1) (jg_V jl_X1_38 jw_i_X1_hasPerson jw_s_X1_hasPerson jw_n_X1 jw_c_X1_hasPerson) rfl rfl rfl jd_X1_hasPerson ⟨Nat.le_of_ble_eq_true rfl, Nat.le_of_ble_eq_true rfl⟩ rfl rfl (Nat.le_of_ble_eq_true rfl) ho0 (okc_0 hy (by decide)) rfl dX1_houseOf_2 rfl ?_
  refine v_if_eq (pc := 5) (tgt := 17) K dX1_houseOf_5 (by decide) hF (fun c5 hF => ?_) (fun c5 hF => ?_)
  · refine v_iconst (pc := 17) (v := 0) K dX1_houseOf_17 rfl ?_
    have hz := (Option.some.inj hF).symm
    subst hz
    exact v_iret (pc := 18) K hQ dX1_houseOf_18
  · refine v_aload_n (pc := 8) K dX1_houseOf_8 0 rfl ?_
    refine gX1_houses (pc := 9) K hy ho0 jn_X1 (List.mem_cons_of_mem _ jl_X1_18) dX1_houseOf_9 ?_
    refine v_iload_n (pc := 12) K dX1_houseOf_12 1 rfl ?_
    refine iX1_houses (pc := 13) K hy ho0 hF dX1_houseOf_13 (fun hi4 hF => ?_)
    refine v_goto (pc := 14) (tgt := 18) K dX1_houseOf_14 (by decide) ?_
    have hz := (Option.some.inj hF).symm
    subst hz
    exact v_iret (pc := 18) K hQ dX1_houseOf_18
set_option maxRecDepth 100000 in
set_option maxHeartbeats 4000000 in
theorem kX1_houseOf (l : Launch) {y : Ly} (hJ : ly_J y) (hy : y.2.2.2.2 = 0) {M M1 : QM} {r : Int32} {o0 : Nat} {x1 : Int32} (ho0 : kls o0 = 1) (hF : fX1_houseOf M o0 x1 = some (r, M1)) : Met l yX1_houseOf wqX1_houseOf rmX1_houseOf (q_P y [.ref (ly_o y o0), .int x1] M) (q_E y (some (.int r)) M1) 0 0 (ly_A y) :=
  q_met (by decide) rfl hJ rfl rfl rfl (fun x K hQ => bX1_houseOf_0 l K hy (z := (r, M1)) hQ ho0 hF)
-- ===== X1_codeOf (I)I
theorem jd_X1_codeOf : yX1_codeOf.cls = RX1 ∧ yX1_codeOf.cls ≠ "java/lang/invoke/MethodHandle" ∧ yX1_codeOf.cls ≠ "java/lang/invoke/VarHandle" ∧ (parseMethodDescriptor yX1_codeOf.desc).map (fun d => d.parameters.length) = some 1 := by decide +kernel
abbrev wqX1_codeOf : List Cond := .code yX1_codeOf cX1_codeOf 2 (some .int) :: wsL_law
abbrev rmX1_codeOf : Room := { frames := 1, cells := 0, slots := 0, locals := 21 }
def fX1_codeOf (M : QM) (o0 : Nat) (x1 : Int32) : Option (Int32 × QM) := (q_b (fX1_hasPerson M o0 x1) fun r2 M3 => if r2 = (0 : Int32) then some ((-1 : Int32), M3) else (if q_in x1 12 then some (q_a M3 o0 3 x1.toNatClampNeg, M3) else none))
set_option maxRecDepth 100000 in
set_option maxHeartbeats 4000000 in
theorem bX1_codeOf_0 {x : Cx} {y : Ly} (l : Launch) (K : VK x l rmX1_codeOf y 2 cX1_codeOf RX1 wqX1_codeOf) (hy : y.2.2.2.2 = 0) {z : Int32 × QM} (hQ : VQ x y (some (.int z.1)) z.2 (some .int)) {M : QM} {o0 : Nat} {x1 : Int32} (ho0 : kls o0 = 1) (hF : fX1_codeOf M o0 x1 = some z) : V x y 2 M 0 [(0, .ref (ly_o y o0)), (1, .int x1)] [] := by
  unfold fX1_codeOf at hF
  refine v_aload_n (pc := 0) K dX1_codeOf_0 0 rfl ?_
  refine v_iload_n (pc := 1) K dX1_codeOf_1 1 rfl ?_
  obtain ⟨r2, M3, hc1, hF⟩ := q_bE hF
  refine v_callV (pc := 2) (ci := 1) (As := [.int x1]) (rest := []) (st' := [.int r2]) (r := some (.int r2)) (M1 := M3) K (kX1_hasPerson l K.2.2.2.2.2.2.1 hy ho0 hc1) (jg_V jl_X1_38 jw_i_X1_hasPerson jw_s_X1_hasPerson jw_n_X1 jw_c_X1_hasPerson) rfl rfl rfl jd_X1_hasPerson ⟨Nat.le_of_ble_eq_true rfl, Nat.le_of_ble_eq_true rfl⟩ rfl rfl (Nat.le_of_ble_eq_true rfl) ho0 (okc_0 hy (by decide)) rfl dX1_codeOf_2 rfl ?_
  refine v_if_eq (pc := 5) (tgt := 17) K dX1_codeOf_5 (by decide) hF (fun c5 hF => ?_) (fun c5 hF => ?_)
  · refine v_iconst (pc := 17) (v := -1) K dX1_codeOf_17 rfl ?_
    have hz := (Option.some.inj hF).symm
    subst hz
    exact v_iret (pc := 18) K hQ dX1_codeOf_18
  · refine v_aload_n (pc := 8) K dX1_codeOf_8 0 rfl ?_
    refine gX1_kept (pc := 9) K hy ho0 jn_X1 (List.mem_cons_of_mem _ jl_X1_21) dX1_codeOf_9 ?_
    refine v_iload_n (pc := 12) K dX1_codeOf_12 1 rfl ?_
    refine iX1_kept (pc := 13) K hy ho0 hF dX1_codeOf_13 (fun hi4 hF => ?_)
    refine v_goto (pc := 14) (tgt := 18) K dX1_codeOf_14 (by decide) ?_
    have hz := (Option.some.inj hF).symm
    subst hz
    exact v_iret (pc := 18) K hQ dX1_codeOf_18
set_option maxRecDepth 100000 in
set_option maxHeartbeats 4000000 in
theorem kX1_codeOf (l : Launch) {y : Ly} (hJ : ly_J y) (hy : y.2.2.2.2 = 0) {M M1 : QM} {r : Int32} {o0 : Nat} {x1 : Int32} (ho0 : kls o0 = 1) (hF : fX1_codeOf M o0 x1 = some (r, M1)) : Met l yX1_codeOf wqX1_codeOf rmX1_codeOf (q_P y [.ref (ly_o y o0), .int x1] M) (q_E y (some (.int r)) M1) 0 0 (ly_A y) :=
  q_met (by decide) rfl hJ rfl rfl rfl (fun x K hQ => bX1_codeOf_0 l K hy (z := (r, M1)) hQ ho0 hF)
-- ===== X1_setCode (II)V
theorem jd_X1_setCode : yX1_setCode.cls = RX1 ∧ yX1_setCode.cls ≠ "java/lang/invoke/MethodHandle" ∧ yX1_setCode.cls ≠ "java/lang/invoke/VarHandle" ∧ (parseMethodDescriptor yX1_setCode.desc).map (fun d => d.parameters.length) = some 2 := by decide +kernel
abbrev wqX1_setCode : List Cond := .code yX1_setCode cX1_setCode 3 none :: wsL_law
abbrev rmX1_setCode : Room := { frames := 1, cells := 0, slots := 0, locals := 21 }
def fX1_setCode (M : QM) (o0 : Nat) (x1 : Int32) (x2 : Int32) : Option QM := (q_b (fX1_hasPerson M o0 x1) fun r2 M3 => if r2 = (0 : Int32) then some M3 else (if q_in x1 12 then (q_t (p_a M3 o0 3 x1.toNatClampNeg x2) fun M5 => some M5) else none))
set_option maxRecDepth 100000 in
set_option maxHeartbeats 4000000 in
theorem bX1_setCode_0 {x : Cx} {y : Ly} (l : Launch) (K : VK x l rmX1_setCode y 3 cX1_setCode RX1 wqX1_setCode) (hy : y.2.2.2.2 = 0) {z : QM} (hQ : VQ x y none z none) {M : QM} {o0 : Nat} {x1 : Int32} {x2 : Int32} (ho0 : kls o0 = 1) (hF : fX1_setCode M o0 x1 x2 = some z) : V x y 3 M 0 [(0, .ref (ly_o y o0)), (1, .int x1), (2, .int x2)] [] := by
  unfold fX1_setCode at hF
  refine v_aload_n (pc := 0) K dX1_setCode_0 0 rfl ?_
  refine v_iload_n (pc := 1) K dX1_setCode_1 1 rfl ?_
  obtain ⟨r2, M3, hc1, hF⟩ := q_bE hF
  refine v_callV (pc := 2) (ci := 1) (As := [.int x1]) (rest := []) (st' := [.int r2]) (r := some (.int r2)) (M1 := M3) K (kX1_hasPerson l K.2.2.2.2.2.2.1 hy ho0 hc1) (jg_V jl_X1_38 jw_i_X1_hasPerson jw_s_X1_hasPerson jw_n_X1 jw_c_X1_hasPerson) rfl rfl rfl jd_X1_hasPerson ⟨Nat.le_of_ble_eq_true rfl, Nat.le_of_ble_eq_true rfl⟩ rfl rfl (Nat.le_of_ble_eq_true rfl) ho0 (okc_0 hy (by decide)) rfl dX1_setCode_2 rfl ?_
  refine v_if_eq (pc := 5) (tgt := 15) K dX1_setCode_5 (by decide) hF (fun c6 hF => ?_) (fun c6 hF => ?_)
  · have hz := (Option.some.inj hF).symm
    subst hz
    exact v_vret (pc := 15) K hQ dX1_setCode_15
  · refine v_aload_n (pc := 8) K dX1_setCode_8 0 rfl ?_
    refine gX1_kept (pc := 9) K hy ho0 jn_X1 (List.mem_cons_of_mem _ jl_X1_21) dX1_setCode_9 ?_
    refine v_iload_n (pc := 12) K dX1_setCode_12 1 rfl ?_
    refine v_iload_n (pc := 13) K dX1_setCode_13 2 rfl ?_
    refine uX1_kept (pc := 14) K hy ho0 hF dX1_setCode_14 (fun hi4 hF => ?_)
    refine v_nmM hF (fun M5 hF => ?_)
    have hz := (Option.some.inj hF).symm
    subst hz
    exact v_vret (pc := 15) K hQ dX1_setCode_15
set_option maxRecDepth 100000 in
set_option maxHeartbeats 4000000 in
theorem kX1_setCode (l : Launch) {y : Ly} (hJ : ly_J y) (hy : y.2.2.2.2 = 0) {M M1 : QM} {o0 : Nat} {x1 : Int32} {x2 : Int32} (ho0 : kls o0 = 1) (hF : fX1_setCode M o0 x1 x2 = some M1) : Met l yX1_setCode wqX1_setCode rmX1_setCode (q_P y [.ref (ly_o y o0), .int x1, .int x2] M) (q_E y none M1) 0 0 (ly_A y) :=
  q_met (by decide) rfl hJ rfl rfl rfl (fun x K hQ => bX1_setCode_0 l K hy (z := M1) hQ ho0 hF)
-- ===== X1_isOwing (II)Z
theorem jd_X1_isOwing : yX1_isOwing.cls = RX1 ∧ yX1_isOwing.cls ≠ "java/lang/invoke/MethodHandle" ∧ yX1_isOwing.cls ≠ "java/lang/invoke/VarHandle" ∧ (parseMethodDescriptor yX1_isOwing.desc).map (fun d => d.parameters.length) = some 2 := by decide +kernel
abbrev wqX1_isOwing : List Cond := .code yX1_isOwing cX1_isOwing 3 (some .boolean) :: wsL_law
abbrev rmX1_isOwing : Room := { frames := 1, cells := 0, slots := 0, locals := 21 }
def fX1_isOwing (M : QM) (o0 : Nat) (x1 : Int32) (x2 : Int32) : Option (Int32 × QM) := (q_b (fX1_hasPerson M o0 x1) fun r2 M3 => if r2 = (0 : Int32) then some ((0 : Int32), M3) else (q_b (fX1_hasPerson M3 o0 x2) fun r5 M6 => if r5 = (0 : Int32) then some ((0 : Int32), M6) else (if q_in x1 12 then (q_t (((q_a M6 o0 4 x1.toNatClampNeg) >>> (x2 &&& (31 : Int32))) &&& (1 : Int32)) fun v8 => if v8 ≠ (1 : Int32) then some ((0 : Int32), M6) else some ((1 : Int32), M6)) else none)))
set_option maxRecDepth 100000 in
set_option maxHeartbeats 4000000 in
theorem bX1_isOwing_0 {x : Cx} {y : Ly} (l : Launch) (K : VK x l rmX1_isOwing y 3 cX1_isOwing RX1 wqX1_isOwing) (hy : y.2.2.2.2 = 0) {z : Int32 × QM} (hQ : VQ x y (some (.int z.1)) z.2 (some .boolean)) {M : QM} {o0 : Nat} {x1 : Int32} {x2 : Int32} (ho0 : kls o0 = 1) (hF : fX1_isOwing M o0 x1 x2 = some z) : V x y 3 M 0 [(0, .ref (ly_o y o0)), (1, .int x1), (2, .int x2)] [] := by
  unfold fX1_isOwing at hF
  refine v_aload_n (pc := 0) K dX1_isOwing_0 0 rfl ?_
  refine v_iload_n (pc := 1) K dX1_isOwing_1 1 rfl ?_
  obtain ⟨r2, M3, hc1, hF⟩ := q_bE hF
  refine v_callV (pc := 2) (ci := 1) (As := [.int x1]) (rest := []) (st' := [.int r2]) (r := some (.int r2)) (M1 := M3) K (kX1_hasPerson l K.2.2.2.2.2.2.1 hy ho0 hc1) (jg_V jl_X1_38 jw_i_X1_hasPerson jw_s_X1_hasPerson jw_n_X1 jw_c_X1_hasPerson) rfl rfl rfl jd_X1_hasPerson ⟨Nat.le_of_ble_eq_true rfl, Nat.le_of_ble_eq_true rfl⟩ rfl rfl (Nat.le_of_ble_eq_true rfl) ho0 (okc_0 hy (by decide)) rfl dX1_isOwing_2 rfl ?_
  refine v_if_eq (pc := 5) (tgt := 34) K dX1_isOwing_5 (by decide) hF (fun c11 hF => ?_) (fun c11 hF => ?_)
  · refine v_iconst (pc := 34) (v := 0) K dX1_isOwing_34 rfl ?_
    have hz := (Option.some.inj hF).symm
    subst hz
    exact v_zret (pc := 35) K hQ rfl dX1_isOwing_35
  · refine v_aload_n (pc := 8) K dX1_isOwing_8 0 rfl ?_
    refine v_iload_n (pc := 9) K dX1_isOwing_9 2 rfl ?_
    obtain ⟨r5, M6, hc4, hF⟩ := q_bE hF
    refine v_callV (pc := 10) (ci := 1) (As := [.int x2]) (rest := []) (st' := [.int r5]) (r := some (.int r5)) (M1 := M6) K (kX1_hasPerson l K.2.2.2.2.2.2.1 hy ho0 hc4) (jg_V jl_X1_38 jw_i_X1_hasPerson jw_s_X1_hasPerson jw_n_X1 jw_c_X1_hasPerson) rfl rfl rfl jd_X1_hasPerson ⟨Nat.le_of_ble_eq_true rfl, Nat.le_of_ble_eq_true rfl⟩ rfl rfl (Nat.le_of_ble_eq_true rfl) ho0 (okc_0 hy (by decide)) rfl dX1_isOwing_10 rfl ?_
    refine v_if_eq (pc := 13) (tgt := 34) K dX1_isOwing_13 (by decide) hF (fun c10 hF => ?_) (fun c10 hF => ?_)
    · refine v_iconst (pc := 34) (v := 0) K dX1_isOwing_34 rfl ?_
      have hz := (Option.some.inj hF).symm
      subst hz
      exact v_zret (pc := 35) K hQ rfl dX1_isOwing_35
    · refine v_aload_n (pc := 16) K dX1_isOwing_16 0 rfl ?_
      refine gX1_owing (pc := 17) K hy ho0 jn_X1 (List.mem_cons_of_mem _ jl_X1_24) dX1_isOwing_17 ?_
      refine v_iload_n (pc := 20) K dX1_isOwing_20 1 rfl ?_
      refine iX1_owing (pc := 21) K hy ho0 hF dX1_isOwing_21 (fun hi7 hF => ?_)
      refine v_iload_n (pc := 22) K dX1_isOwing_22 2 rfl ?_
      refine v_ishr (pc := 23) K dX1_isOwing_23 ?_
      refine v_iconst (pc := 24) (v := 1) K dX1_isOwing_24 rfl ?_
      refine v_iand (pc := 25) K dX1_isOwing_25 ?_
      refine v_nmI hF (fun v8 hF => ?_)
      refine v_iconst (pc := 26) (v := 1) K dX1_isOwing_26 rfl ?_
      refine v_icmp_ne (pc := 27) (tgt := 34) K dX1_isOwing_27 (by decide) hF (fun c9 hF => ?_) (fun c9 hF => ?_)
      · refine v_iconst (pc := 34) (v := 0) K dX1_isOwing_34 rfl ?_
        have hz := (Option.some.inj hF).symm
        subst hz
        exact v_zret (pc := 35) K hQ rfl dX1_isOwing_35
      · refine v_iconst (pc := 30) (v := 1) K dX1_isOwing_30 rfl ?_
        refine v_goto (pc := 31) (tgt := 35) K dX1_isOwing_31 (by decide) ?_
        have hz := (Option.some.inj hF).symm
        subst hz
        exact v_zret (pc := 35) K hQ rfl dX1_isOwing_35
set_option maxRecDepth 100000 in
set_option maxHeartbeats 4000000 in
theorem kX1_isOwing (l : Launch) {y : Ly} (hJ : ly_J y) (hy : y.2.2.2.2 = 0) {M M1 : QM} {r : Int32} {o0 : Nat} {x1 : Int32} {x2 : Int32} (ho0 : kls o0 = 1) (hF : fX1_isOwing M o0 x1 x2 = some (r, M1)) : Met l yX1_isOwing wqX1_isOwing rmX1_isOwing (q_P y [.ref (ly_o y o0), .int x1, .int x2] M) (q_E y (some (.int r)) M1) 0 0 (ly_A y) :=
  q_met (by decide) rfl hJ rfl rfl rfl (fun x K hQ => bX1_isOwing_0 l K hy (z := (r, M1)) hQ ho0 hF)
-- ===== X1_setOwing (IIZ)V
theorem jd_X1_setOwing : yX1_setOwing.cls = RX1 ∧ yX1_setOwing.cls ≠ "java/lang/invoke/MethodHandle" ∧ yX1_setOwing.cls ≠ "java/lang/invoke/VarHandle" ∧ (parseMethodDescriptor yX1_setOwing.desc).map (fun d => d.parameters.length) = some 3 := by decide +kernel
abbrev wqX1_setOwing : List Cond := .code yX1_setOwing cX1_setOwing 5 none :: wsL_law
abbrev rmX1_setOwing : Room := { frames := 1, cells := 0, slots := 0, locals := 21 }
def fX1_setOwing_b53 (M : QM) (s0 : Int32) (s1 : Int32) (so2 : Nat) : Option QM := (if q_in s1 12 then (q_t (p_a M so2 4 s1.toNatClampNeg s0) fun M15 => some M15) else none)
set_option maxRecDepth 100000 in
set_option maxHeartbeats 4000000 in
theorem bX1_setOwing_53 {x : Cx} {y : Ly} (l : Launch) (K : VK x l rmX1_setOwing y 5 cX1_setOwing RX1 wqX1_setOwing) (hy : y.2.2.2.2 = 0) {z : QM} (hQ : VQ x y none z none) {M : QM} {s0 : Int32} {s1 : Int32} {so2 : Nat} (hso2 : kls so2 = 1) (hF : fX1_setOwing_b53 M s0 s1 so2 = some z) : V x y 5 M 53 [] [.int s0, .int s1, .ref (ly_a y so2 4)] := by
  unfold fX1_setOwing_b53 at hF
  refine uX1_owing (pc := 53) K hy hso2 hF dX1_setOwing_53 (fun hi14 hF => ?_)
  refine v_nmM hF (fun M15 hF => ?_)
  have hz := (Option.some.inj hF).symm
  subst hz
  exact v_vret (pc := 54) K hQ dX1_setOwing_54
def fX1_setOwing (M : QM) (o0 : Nat) (x1 : Int32) (x2 : Int32) (x3 : Int32) : Option QM := (q_b (fX1_hasPerson M o0 x1) fun r2 M3 => if r2 = (0 : Int32) then some M3 else (q_b (fX1_hasPerson M3 o0 x2) fun r5 M6 => if r5 = (0 : Int32) then some M6 else if x3 = (0 : Int32) then (if q_in x1 12 then (q_t ((q_a M6 o0 4 x1.toNatClampNeg) &&& (((1 : Int32) <<< (x2 &&& (31 : Int32))) ^^^ (-1 : Int32))) fun v8 => (fX1_setOwing_b53 M6 v8 x1 o0)) else none) else (if q_in x1 12 then (q_t ((q_a M6 o0 4 x1.toNatClampNeg) ||| ((1 : Int32) <<< (x2 &&& (31 : Int32)))) fun v10 => (fX1_setOwing_b53 M6 v10 x1 o0)) else none)))
set_option maxRecDepth 100000 in
set_option maxHeartbeats 4000000 in
theorem bX1_setOwing_0 {x : Cx} {y : Ly} (l : Launch) (K : VK x l rmX1_setOwing y 5 cX1_setOwing RX1 wqX1_setOwing) (hy : y.2.2.2.2 = 0) {z : QM} (hQ : VQ x y none z none) {M : QM} {o0 : Nat} {x1 : Int32} {x2 : Int32} {x3 : Int32} (ho0 : kls o0 = 1) (hF : fX1_setOwing M o0 x1 x2 x3 = some z) : V x y 5 M 0 [(0, .ref (ly_o y o0)), (1, .int x1), (2, .int x2), (3, .int x3)] [] := by
  unfold fX1_setOwing at hF
  refine v_aload_n (pc := 0) K dX1_setOwing_0 0 rfl ?_
  refine v_iload_n (pc := 1) K dX1_setOwing_1 1 rfl ?_
  obtain ⟨r2, M3, hc1, hF⟩ := q_bE hF
  refine v_callV (pc := 2) (ci := 1) (As := [.int x1]) (rest := []) (st' := [.int r2]) (r := some (.int r2)) (M1 := M3) K (kX1_hasPerson l K.2.2.2.2.2.2.1 hy ho0 hc1) (jg_V jl_X1_38 jw_i_X1_hasPerson jw_s_X1_hasPerson jw_n_X1 jw_c_X1_hasPerson) rfl rfl rfl jd_X1_hasPerson ⟨Nat.le_of_ble_eq_true rfl, Nat.le_of_ble_eq_true rfl⟩ rfl rfl (Nat.le_of_ble_eq_true rfl) ho0 (okc_0 hy (by decide)) rfl dX1_setOwing_2 rfl ?_
  refine v_if_eq (pc := 5) (tgt := 54) K dX1_setOwing_5 (by decide) hF (fun c13 hF => ?_) (fun c13 hF => ?_)
  · have hz := (Option.some.inj hF).symm
    subst hz
    exact v_vret (pc := 54) K hQ dX1_setOwing_54
  · refine v_aload_n (pc := 8) K dX1_setOwing_8 0 rfl ?_
    refine v_iload_n (pc := 9) K dX1_setOwing_9 2 rfl ?_
    obtain ⟨r5, M6, hc4, hF⟩ := q_bE hF
    refine v_callV (pc := 10) (ci := 1) (As := [.int x2]) (rest := []) (st' := [.int r5]) (r := some (.int r5)) (M1 := M6) K (kX1_hasPerson l K.2.2.2.2.2.2.1 hy ho0 hc4) (jg_V jl_X1_38 jw_i_X1_hasPerson jw_s_X1_hasPerson jw_n_X1 jw_c_X1_hasPerson) rfl rfl rfl jd_X1_hasPerson ⟨Nat.le_of_ble_eq_true rfl, Nat.le_of_ble_eq_true rfl⟩ rfl rfl (Nat.le_of_ble_eq_true rfl) ho0 (okc_0 hy (by decide)) rfl dX1_setOwing_10 rfl ?_
    refine v_if_eq (pc := 13) (tgt := 54) K dX1_setOwing_13 (by decide) hF (fun c12 hF => ?_) (fun c12 hF => ?_)
    · have hz := (Option.some.inj hF).symm
      subst hz
      exact v_vret (pc := 54) K hQ dX1_setOwing_54
    · refine v_iconst (pc := 16) (v := 1) K dX1_setOwing_16 rfl ?_
      refine v_iload_n (pc := 17) K dX1_setOwing_17 2 rfl ?_
      refine v_ishl (pc := 18) K dX1_setOwing_18 ?_
      refine v_istore (pc := 19) (lv' := [(4, .int ((1 : Int32) <<< (x2 &&& (31 : Int32)))), (0, .ref (ly_o y o0)), (1, .int x1), (2, .int x2), (3, .int x3)]) K 4 dX1_setOwing_19 (by decide) rfl ?_
      refine v_aload_n (pc := 21) K dX1_setOwing_21 1 rfl ?_
      refine gX1_owing (pc := 22) K hy ho0 jn_X1 (List.mem_cons_of_mem _ jl_X1_24) dX1_setOwing_22 ?_
      refine v_iload_n (pc := 25) K dX1_setOwing_25 2 rfl ?_
      refine v_iload_n (pc := 26) K dX1_setOwing_26 4 rfl ?_
      refine v_if_eq (pc := 27) (tgt := 42) K dX1_setOwing_27 (by decide) hF (fun c11 hF => ?_) (fun c11 hF => ?_)
      · refine v_aload_n (pc := 42) K dX1_setOwing_42 1 rfl ?_
        refine gX1_owing (pc := 43) K hy ho0 jn_X1 (List.mem_cons_of_mem _ jl_X1_24) dX1_setOwing_43 ?_
        refine v_iload_n (pc := 46) K dX1_setOwing_46 2 rfl ?_
        refine iX1_owing (pc := 47) K hy ho0 hF dX1_setOwing_47 (fun hi7 hF => ?_)
        refine v_iload (pc := 48) K dX1_setOwing_48 0 rfl ?_
        refine v_iconst (pc := 50) (v := -1) K dX1_setOwing_50 rfl ?_
        refine v_ixor (pc := 51) K dX1_setOwing_51 ?_
        refine v_iand (pc := 52) K dX1_setOwing_52 ?_
        refine v_nmI hF (fun v8 hF => ?_)
        refine v_sub [] rfl ?_
        exact bX1_setOwing_53 l K hy hQ ho0 hF
      · refine v_aload_n (pc := 30) K dX1_setOwing_30 1 rfl ?_
        refine gX1_owing (pc := 31) K hy ho0 jn_X1 (List.mem_cons_of_mem _ jl_X1_24) dX1_setOwing_31 ?_
        refine v_iload_n (pc := 34) K dX1_setOwing_34 2 rfl ?_
        refine iX1_owing (pc := 35) K hy ho0 hF dX1_setOwing_35 (fun hi9 hF => ?_)
        refine v_iload (pc := 36) K dX1_setOwing_36 0 rfl ?_
        refine v_ior (pc := 38) K dX1_setOwing_38 ?_
        refine v_nmI hF (fun v10 hF => ?_)
        refine v_goto (pc := 39) (tgt := 53) K dX1_setOwing_39 (by decide) ?_
        refine v_sub [] rfl ?_
        exact bX1_setOwing_53 l K hy hQ ho0 hF
set_option maxRecDepth 100000 in
set_option maxHeartbeats 4000000 in
theorem kX1_setOwing (l : Launch) {y : Ly} (hJ : ly_J y) (hy : y.2.2.2.2 = 0) {M M1 : QM} {o0 : Nat} {x1 : Int32} {x2 : Int32} {x3 : Int32} (ho0 : kls o0 = 1) (hF : fX1_setOwing M o0 x1 x2 x3 = some M1) : Met l yX1_setOwing wqX1_setOwing rmX1_setOwing (q_P y [.ref (ly_o y o0), .int x1, .int x2, .int x3] M) (q_E y none M1) 0 0 (ly_A y) :=
  q_met (by decide) rfl hJ rfl rfl rfl (fun x K hQ => bX1_setOwing_0 l K hy (z := M1) hQ ho0 hF)
-- ===== X1_addQuarrel (III)I
theorem jd_X1_addQuarrel : yX1_addQuarrel.cls = RX1 ∧ yX1_addQuarrel.cls ≠ "java/lang/invoke/MethodHandle" ∧ yX1_addQuarrel.cls ≠ "java/lang/invoke/VarHandle" ∧ (parseMethodDescriptor yX1_addQuarrel.desc).map (fun d => d.parameters.length) = some 3 := by decide +kernel
abbrev wqX1_addQuarrel : List Cond := .code yX1_addQuarrel cX1_addQuarrel 6 (some .int) :: wsL_law
abbrev rmX1_addQuarrel : Room := { frames := 2, cells := 0, slots := 0, locals := 42 }
def fX1_addQuarrel (M : QM) (o0 : Nat) (x1 : Int32) (x2 : Int32) (x3 : Int32) : Option (Int32 × QM) := if (q_i M o0 7) < (0 : Int32) then some ((-1 : Int32), M) else if (q_i M o0 7) < (24 : Int32) then (if q_in (q_i M o0 7) 24 then (q_t (p_i M (el o0 5 (q_i M o0 7).toNatClampNeg) 2 x1) fun M2 => (q_t (p_i M2 (el o0 5 (q_i M o0 7).toNatClampNeg) 3 x2) fun M3 => (q_b (fX1_codeOf M3 o0 x1) fun r5 M6 => (q_t (p_i M6 (el o0 5 (q_i M o0 7).toNatClampNeg) 4 r5) fun M7 => (q_b (fX1_codeOf M7 o0 x2) fun r9 M10 => (q_t (p_i M10 (el o0 5 (q_i M o0 7).toNatClampNeg) 5 r9) fun M11 => (q_t (p_i M11 (el o0 5 (q_i M o0 7).toNatClampNeg) 6 x3) fun M12 => (q_t (p_i M12 (el o0 5 (q_i M o0 7).toNatClampNeg) 7 (0 : Int32)) fun M13 => (q_t (p_i M13 o0 7 ((q_i M13 o0 7) + (1 : Int32))) fun M14 => some (q_i M o0 7, M14)))))))))) else none) else some ((-1 : Int32), M)
set_option maxRecDepth 100000 in
set_option maxHeartbeats 4000000 in
theorem bX1_addQuarrel_0 {x : Cx} {y : Ly} (l : Launch) (K : VK x l rmX1_addQuarrel y 6 cX1_addQuarrel RX1 wqX1_addQuarrel) (hy : y.2.2.2.2 = 0) {z : Int32 × QM} (hQ : VQ x y (some (.int z.1)) z.2 (some .int)) {M : QM} {o0 : Nat} {x1 : Int32} {x2 : Int32} {x3 : Int32} (ho0 : kls o0 = 1) (hF : fX1_addQuarrel M o0 x1 x2 x3 = some z) : V x y 6 M 0 [(0, .ref (ly_o y o0)), (1, .int x1), (2, .int x2), (3, .int x3)] [] := by
  unfold fX1_addQuarrel at hF
  refine v_aload_n (pc := 0) K dX1_addQuarrel_0 0 rfl ?_
  refine gX1_quarrelCount (pc := 1) K hy ho0 jn_X1 (List.mem_cons_of_mem _ jl_X1_42) dX1_addQuarrel_1 ?_
  refine v_istore (pc := 4) (lv' := [(4, .int (q_i M o0 7)), (0, .ref (ly_o y o0)), (1, .int x1), (2, .int x2), (3, .int x3)]) K 4 dX1_addQuarrel_4 (by decide) rfl ?_
  refine v_iload (pc := 6) K dX1_addQuarrel_6 0 rfl ?_
  refine v_if_lt (pc := 8) (tgt := 18) K dX1_addQuarrel_8 (by decide) hF (fun c16 hF => ?_) (fun c16 hF => ?_)
  · refine v_iconst (pc := 18) (v := -1) K dX1_addQuarrel_18 rfl ?_
    have hz := (Option.some.inj hF).symm
    subst hz
    exact v_iret (pc := 19) K hQ dX1_addQuarrel_19
  · refine v_iload (pc := 11) K dX1_addQuarrel_11 0 rfl ?_
    refine v_bipush (pc := 13) (v := 24) K dX1_addQuarrel_13 rfl ?_
    refine v_icmp_lt (pc := 15) (tgt := 20) K dX1_addQuarrel_15 (by decide) hF (fun c15 hF => ?_) (fun c15 hF => ?_)
    · refine v_aload_n (pc := 20) K dX1_addQuarrel_20 1 rfl ?_
      refine gX1_quarrels (pc := 21) K hy ho0 jn_X1 (List.mem_cons_of_mem _ jl_X1_29) dX1_addQuarrel_21 ?_
      refine v_iload (pc := 24) K dX1_addQuarrel_24 0 rfl ?_
      refine iX1_quarrels (pc := 26) K hy ho0 hF dX1_addQuarrel_26 (fun hi1 hF => ?_)
      refine v_astore (pc := 27) (lv' := [(5, .ref (ly_o y (el o0 5 (q_i M o0 7).toNatClampNeg))), (4, .int (q_i M o0 7)), (0, .ref (ly_o y o0)), (1, .int x1), (2, .int x2), (3, .int x3)]) K 5 dX1_addQuarrel_27 (by decide) rfl ?_
      refine v_aload (pc := 29) K dX1_addQuarrel_29 0 rfl ?_
      refine v_iload_n (pc := 31) K dX1_addQuarrel_31 3 rfl ?_
      refine pX4_first (pc := 32) K hy (el_q ho0 hi1) jn_X4 (List.mem_cons_of_mem _ jl_X1_45) dX1_addQuarrel_32 ?_
      refine v_nmM hF (fun M2 hF => ?_)
      refine v_aload (pc := 35) K dX1_addQuarrel_35 0 rfl ?_
      refine v_iload_n (pc := 37) K dX1_addQuarrel_37 4 rfl ?_
      refine pX4_second (pc := 38) K hy (el_q ho0 hi1) jn_X4 (List.mem_cons_of_mem _ jl_X1_48) dX1_addQuarrel_38 ?_
      refine v_nmM hF (fun M3 hF => ?_)
      refine v_aload (pc := 41) K dX1_addQuarrel_41 0 rfl ?_
      refine v_aload_n (pc := 43) K dX1_addQuarrel_43 2 rfl ?_
      refine v_iload_n (pc := 44) K dX1_addQuarrel_44 3 rfl ?_
      obtain ⟨r5, M6, hc4, hF⟩ := q_bE hF
      refine v_callV (pc := 45) (ci := 1) (As := [.int x1]) (rest := [.ref (ly_o y (el o0 5 (q_i M o0 7).toNatClampNeg))]) (st' := [.int r5, .ref (ly_o y (el o0 5 (q_i M o0 7).toNatClampNeg))]) (r := some (.int r5)) (M1 := M6) K (kX1_codeOf l K.2.2.2.2.2.2.1 hy ho0 hc4) (jg_V jl_X1_51 jw_i_X1_codeOf jw_s_X1_codeOf jw_n_X1 jw_c_X1_codeOf) rfl rfl rfl jd_X1_codeOf ⟨Nat.le_of_ble_eq_true rfl, Nat.le_of_ble_eq_true rfl⟩ rfl rfl (Nat.le_of_ble_eq_true rfl) ho0 (okc_0 hy (by decide)) rfl dX1_addQuarrel_45 rfl ?_
      refine pX4_firstCode (pc := 48) K hy (el_q ho0 hi1) jn_X4 (List.mem_cons_of_mem _ jl_X1_55) dX1_addQuarrel_48 ?_
      refine v_nmM hF (fun M7 hF => ?_)
      refine v_aload (pc := 51) K dX1_addQuarrel_51 0 rfl ?_
      refine v_aload_n (pc := 53) K dX1_addQuarrel_53 2 rfl ?_
      refine v_iload_n (pc := 54) K dX1_addQuarrel_54 4 rfl ?_
      obtain ⟨r9, M10, hc8, hF⟩ := q_bE hF
      refine v_callV (pc := 55) (ci := 1) (As := [.int x2]) (rest := [.ref (ly_o y (el o0 5 (q_i M o0 7).toNatClampNeg))]) (st' := [.int r9, .ref (ly_o y (el o0 5 (q_i M o0 7).toNatClampNeg))]) (r := some (.int r9)) (M1 := M10) K (kX1_codeOf l K.2.2.2.2.2.2.1 hy ho0 hc8) (jg_V jl_X1_51 jw_i_X1_codeOf jw_s_X1_codeOf jw_n_X1 jw_c_X1_codeOf) rfl rfl rfl jd_X1_codeOf ⟨Nat.le_of_ble_eq_true rfl, Nat.le_of_ble_eq_true rfl⟩ rfl rfl (Nat.le_of_ble_eq_true rfl) ho0 (okc_0 hy (by decide)) rfl dX1_addQuarrel_55 rfl ?_
      refine pX4_secondCode (pc := 58) K hy (el_q ho0 hi1) jn_X4 (List.mem_cons_of_mem _ jl_X1_58) dX1_addQuarrel_58 ?_
      refine v_nmM hF (fun M11 hF => ?_)
      refine v_aload (pc := 61) K dX1_addQuarrel_61 0 rfl ?_
      refine v_iload_n (pc := 63) K dX1_addQuarrel_63 5 rfl ?_
      refine pX4_ladies (pc := 64) K hy (el_q ho0 hi1) jn_X4 (List.mem_cons_of_mem _ jl_X1_61) dX1_addQuarrel_64 ?_
      refine v_nmM hF (fun M12 hF => ?_)
      refine v_aload (pc := 67) K dX1_addQuarrel_67 0 rfl ?_
      refine v_iconst (pc := 69) (v := 0) K dX1_addQuarrel_69 rfl ?_
      refine pX4_done (pc := 70) K hy (el_q ho0 hi1) jn_X4 (List.mem_cons_of_mem _ jl_X1_64) dX1_addQuarrel_70 ?_
      refine v_nmM hF (fun M13 hF => ?_)
      refine v_aload_n (pc := 73) K dX1_addQuarrel_73 2 rfl ?_
      refine v_dup (pc := 74) K dX1_addQuarrel_74 rfl ?_
      refine gX1_quarrelCount (pc := 75) K hy ho0 jn_X1 (List.mem_cons_of_mem _ jl_X1_42) dX1_addQuarrel_75 ?_
      refine v_iconst (pc := 78) (v := 1) K dX1_addQuarrel_78 rfl ?_
      refine v_iadd (pc := 79) K dX1_addQuarrel_79 ?_
      refine pX1_quarrelCount (pc := 80) K hy ho0 jn_X1 (List.mem_cons_of_mem _ jl_X1_42) dX1_addQuarrel_80 ?_
      refine v_nmM hF (fun M14 hF => ?_)
      refine v_iload (pc := 83) K dX1_addQuarrel_83 1 rfl ?_
      have hz := (Option.some.inj hF).symm
      subst hz
      exact v_iret (pc := 85) K hQ dX1_addQuarrel_85
    · refine v_iconst (pc := 18) (v := -1) K dX1_addQuarrel_18 rfl ?_
      have hz := (Option.some.inj hF).symm
      subst hz
      exact v_iret (pc := 19) K hQ dX1_addQuarrel_19
set_option maxRecDepth 100000 in
set_option maxHeartbeats 4000000 in
theorem kX1_addQuarrel (l : Launch) {y : Ly} (hJ : ly_J y) (hy : y.2.2.2.2 = 0) {M M1 : QM} {r : Int32} {o0 : Nat} {x1 : Int32} {x2 : Int32} {x3 : Int32} (ho0 : kls o0 = 1) (hF : fX1_addQuarrel M o0 x1 x2 x3 = some (r, M1)) : Met l yX1_addQuarrel wqX1_addQuarrel rmX1_addQuarrel (q_P y [.ref (ly_o y o0), .int x1, .int x2, .int x3] M) (q_E y (some (.int r)) M1) 0 0 (ly_A y) :=
  q_met (by decide) rfl hJ rfl rfl rfl (fun x K hQ => bX1_addQuarrel_0 l K hy (z := (r, M1)) hQ ho0 hF)
-- ===== X1_quarrelAt (I)LTwoCards$Quarrel;
theorem jd_X1_quarrelAt : yX1_quarrelAt.cls = RX1 ∧ yX1_quarrelAt.cls ≠ "java/lang/invoke/MethodHandle" ∧ yX1_quarrelAt.cls ≠ "java/lang/invoke/VarHandle" ∧ (parseMethodDescriptor yX1_quarrelAt.desc).map (fun d => d.parameters.length) = some 1 := by decide +kernel
abbrev wqX1_quarrelAt : List Cond := .code yX1_quarrelAt cX1_quarrelAt 2 (some (.object "TwoCards$Quarrel")) :: wsL_law
abbrev rmX1_quarrelAt : Room := { frames := 0, cells := 0, slots := 0, locals := 0 }
def fX1_quarrelAt (M : QM) (o0 : Nat) (x1 : Int32) : Option (Option Nat × QM) := if x1 < (0 : Int32) then some (none, M) else if (q_i M o0 7) ≤ x1 then some (none, M) else if (24 : Int32) ≤ x1 then some (none, M) else (if q_in x1 24 then some (some (el o0 5 x1.toNatClampNeg), M) else none)
set_option maxRecDepth 100000 in
set_option maxHeartbeats 4000000 in
theorem bX1_quarrelAt_0 {x : Cx} {y : Ly} (l : Launch) (K : VK x l rmX1_quarrelAt y 2 cX1_quarrelAt RX1 wqX1_quarrelAt) (hy : y.2.2.2.2 = 0) {z : Option Nat × QM} (hQ : VQ x y (some (q_v y z.1)) z.2 (some (.object "TwoCards$Quarrel"))) {M : QM} {o0 : Nat} {x1 : Int32} (ho0 : kls o0 = 1) (hF : fX1_quarrelAt M o0 x1 = some z) : V x y 2 M 0 [(0, .ref (ly_o y o0)), (1, .int x1)] [] := by
  unfold fX1_quarrelAt at hF
  refine v_iload_n (pc := 0) K dX1_quarrelAt_0 1 rfl ?_
  refine v_if_lt (pc := 1) (tgt := 27) K dX1_quarrelAt_1 (by decide) hF (fun c4 hF => ?_) (fun c4 hF => ?_)
  · refine v_null (pc := 27) K dX1_quarrelAt_27 ?_
    have hz := (Option.some.inj hF).symm
    subst hz
    exact v_aretN (pc := 28) K hQ (Or.inl ⟨_, rfl⟩) dX1_quarrelAt_28
  · refine v_iload_n (pc := 4) K dX1_quarrelAt_4 1 rfl ?_
    refine v_aload_n (pc := 5) K dX1_quarrelAt_5 0 rfl ?_
    refine gX1_quarrelCount (pc := 6) K hy ho0 jn_X1 (List.mem_cons_of_mem _ jl_X1_42) dX1_quarrelAt_6 ?_
    refine v_icmp_ge (pc := 9) (tgt := 27) K dX1_quarrelAt_9 (by decide) hF (fun c3 hF => ?_) (fun c3 hF => ?_)
    · refine v_null (pc := 27) K dX1_quarrelAt_27 ?_
      have hz := (Option.some.inj hF).symm
      subst hz
      exact v_aretN (pc := 28) K hQ (Or.inl ⟨_, rfl⟩) dX1_quarrelAt_28
    · refine v_iload_n (pc := 12) K dX1_quarrelAt_12 1 rfl ?_
      refine v_bipush (pc := 13) (v := 24) K dX1_quarrelAt_13 rfl ?_
      refine v_icmp_ge (pc := 15) (tgt := 27) K dX1_quarrelAt_15 (by decide) hF (fun c2 hF => ?_) (fun c2 hF => ?_)
      · refine v_null (pc := 27) K dX1_quarrelAt_27 ?_
        have hz := (Option.some.inj hF).symm
        subst hz
        exact v_aretN (pc := 28) K hQ (Or.inl ⟨_, rfl⟩) dX1_quarrelAt_28
      · refine v_aload_n (pc := 18) K dX1_quarrelAt_18 0 rfl ?_
        refine gX1_quarrels (pc := 19) K hy ho0 jn_X1 (List.mem_cons_of_mem _ jl_X1_29) dX1_quarrelAt_19 ?_
        refine v_iload_n (pc := 22) K dX1_quarrelAt_22 1 rfl ?_
        refine iX1_quarrels (pc := 23) K hy ho0 hF dX1_quarrelAt_23 (fun hi1 hF => ?_)
        refine v_goto (pc := 24) (tgt := 28) K dX1_quarrelAt_24 (by decide) ?_
        have hz := (Option.some.inj hF).symm
        subst hz
        exact v_aret (pc := 28) K hQ (Or.inl ⟨_, rfl⟩) dX1_quarrelAt_28
set_option maxRecDepth 100000 in
set_option maxHeartbeats 4000000 in
theorem kX1_quarrelAt (l : Launch) {y : Ly} (hJ : ly_J y) (hy : y.2.2.2.2 = 0) {M M1 : QM} {r : Option Nat} {o0 : Nat} {x1 : Int32} (ho0 : kls o0 = 1) (hF : fX1_quarrelAt M o0 x1 = some (r, M1)) : Met l yX1_quarrelAt wqX1_quarrelAt rmX1_quarrelAt (q_P y [.ref (ly_o y o0), .int x1] M) (q_E y (some (q_v y r)) M1) 0 0 (ly_A y) :=
  q_met (by decide) rfl hJ rfl rfl rfl (fun x K hQ => bX1_quarrelAt_0 l K hy (z := (r, M1)) hQ ho0 hF)
-- ===== X1_goingOn ()I
theorem jd_X1_goingOn : yX1_goingOn.cls = RX1 ∧ yX1_goingOn.cls ≠ "java/lang/invoke/MethodHandle" ∧ yX1_goingOn.cls ≠ "java/lang/invoke/VarHandle" ∧ (parseMethodDescriptor yX1_goingOn.desc).map (fun d => d.parameters.length) = some 0 := by decide +kernel
abbrev wqX1_goingOn : List Cond := .code yX1_goingOn cX1_goingOn 3 (some .int) :: wsL_law
abbrev rmX1_goingOn : Room := { frames := 3, cells := 0, slots := 0, locals := 61 }
def fX1_goingOn_b33 (k4 : QM → Nat → Int32 → Int32 → Option (Int32 × QM)) (M : QM) (o0 : Nat) (x1 : Int32) (x2 : Int32) : Option (Int32 × QM) := (k4 M o0 x1 (x2 + (1 : Int32)))
set_option maxRecDepth 100000 in
set_option maxHeartbeats 4000000 in
theorem bX1_goingOn_33 {x : Cx} {y : Ly} (l : Launch) (K : VK x l rmX1_goingOn y 3 cX1_goingOn RX1 wqX1_goingOn) (hy : y.2.2.2.2 = 0) {z : Int32 × QM} (hQ : VQ x y (some (.int z.1)) z.2 (some .int)) {k4 : QM → Nat → Int32 → Int32 → Option (Int32 × QM)} (hk4 : ∀ {M : QM} {o0 : Nat} {x1 : Int32} {x2 : Int32}, kls o0 = 1 → k4 M o0 x1 x2 = some z → V x y 3 M 4 [(0, .ref (ly_o y o0)), (1, .int x1), (2, .int x2)] []) {M : QM} {o0 : Nat} {x1 : Int32} {x2 : Int32} (ho0 : kls o0 = 1) (hF : fX1_goingOn_b33 k4 M o0 x1 x2 = some z) : V x y 3 M 33 [(0, .ref (ly_o y o0)), (1, .int x1), (2, .int x2)] [] := by
  unfold fX1_goingOn_b33 at hF
  refine v_iinc (pc := 33) (v1 := x2 + (1 : Int32)) (lv' := [(2, .int (x2 + (1 : Int32))), (0, .ref (ly_o y o0)), (1, .int x1)]) K dX1_goingOn_33 2 rfl rfl (by decide) rfl ?_
  refine v_goto (pc := 36) (tgt := 4) K dX1_goingOn_36 (by decide) ?_
  refine v_sub [1, 2, 0] rfl ?_
  exact hk4 ho0 hF
def fX1_goingOn_b4 : Nat → QM → Nat → Int32 → Int32 → Option (Int32 × QM)
  | 0, _, _, _, _ => none
  | q + 1, M, o0, x1, x2 => if (q_i M o0 7) ≤ x2 then some (x1, M) else if (24 : Int32) ≤ x2 then some (x1, M) else (if q_in x2 24 then (q_b (fX4_goesOn M (el o0 5 x2.toNatClampNeg)) fun r3 M4 => if r3 = (0 : Int32) then (fX1_goingOn_b33 (fun M o0 x1 x2 => fX1_goingOn_b4 q M o0 x1 x2) M4 o0 x1 x2) else (fX1_goingOn_b33 (fun M o0 x1 x2 => fX1_goingOn_b4 q M o0 x1 x2) M4 o0 (x1 + (1 : Int32)) x2)) else none)
set_option maxRecDepth 100000 in
set_option maxHeartbeats 4000000 in
theorem bX1_goingOn_4 {x : Cx} {y : Ly} (l : Launch) (K : VK x l rmX1_goingOn y 3 cX1_goingOn RX1 wqX1_goingOn) (hy : y.2.2.2.2 = 0) {z : Int32 × QM} (hQ : VQ x y (some (.int z.1)) z.2 (some .int)) : ∀ (q : Nat) {M : QM} {o0 : Nat} {x1 : Int32} {x2 : Int32}, kls o0 = 1 →  fX1_goingOn_b4 q M o0 x1 x2 = some z → V x y 3 M 4 [(0, .ref (ly_o y o0)), (1, .int x1), (2, .int x2)] [] := by
  intro q
  induction q with
  | zero =>
    intro M o0 x1 x2 ho0 hF
    rw [fX1_goingOn_b4] at hF
    cases hF
  | succ q ih =>
    intro M o0 x1 x2 ho0 hF
    rw [fX1_goingOn_b4] at hF
    refine v_iload_n (pc := 4) K dX1_goingOn_4 2 rfl ?_
    refine v_aload_n (pc := 5) K dX1_goingOn_5 0 rfl ?_
    refine gX1_quarrelCount (pc := 6) K hy ho0 jn_X1 (List.mem_cons_of_mem _ jl_X1_42) dX1_goingOn_6 ?_
    refine v_icmp_ge (pc := 9) (tgt := 39) K dX1_goingOn_9 (by decide) hF (fun c7 hF => ?_) (fun c7 hF => ?_)
    · refine v_iload_n (pc := 39) K dX1_goingOn_39 1 rfl ?_
      have hz := (Option.some.inj hF).symm
      subst hz
      exact v_iret (pc := 40) K hQ dX1_goingOn_40
    · refine v_iload_n (pc := 12) K dX1_goingOn_12 2 rfl ?_
      refine v_bipush (pc := 13) (v := 24) K dX1_goingOn_13 rfl ?_
      refine v_icmp_ge (pc := 15) (tgt := 39) K dX1_goingOn_15 (by decide) hF (fun c6 hF => ?_) (fun c6 hF => ?_)
      · refine v_iload_n (pc := 39) K dX1_goingOn_39 1 rfl ?_
        have hz := (Option.some.inj hF).symm
        subst hz
        exact v_iret (pc := 40) K hQ dX1_goingOn_40
      · refine v_aload_n (pc := 18) K dX1_goingOn_18 0 rfl ?_
        refine gX1_quarrels (pc := 19) K hy ho0 jn_X1 (List.mem_cons_of_mem _ jl_X1_29) dX1_goingOn_19 ?_
        refine v_iload_n (pc := 22) K dX1_goingOn_22 2 rfl ?_
        refine iX1_quarrels (pc := 23) K hy ho0 hF dX1_goingOn_23 (fun hi1 hF => ?_)
        obtain ⟨r3, M4, hc2, hF⟩ := q_bE hF
        refine v_callV (pc := 24) (ci := 4) (As := []) (rest := []) (st' := [.int r3]) (r := some (.int r3)) (M1 := M4) K (kX4_goesOn l K.2.2.2.2.2.2.1 hy (el_q ho0 hi1) hc2) (jg_V jl_X1_67 jw_i_X4_goesOn jw_s_X4_goesOn jw_n_X4 jw_c_X4_goesOn) rfl rfl rfl jd_X4_goesOn ⟨Nat.le_of_ble_eq_true rfl, Nat.le_of_ble_eq_true rfl⟩ rfl rfl (Nat.le_of_ble_eq_true rfl) (el_q ho0 hi1) (okc_0 hy (by decide)) rfl dX1_goingOn_24 rfl ?_
        refine v_if_eq (pc := 27) (tgt := 33) K dX1_goingOn_27 (by decide) hF (fun c5 hF => ?_) (fun c5 hF => ?_)
        · exact bX1_goingOn_33 l K hy hQ ih ho0 hF
        · refine v_iinc (pc := 30) (v1 := x1 + (1 : Int32)) (lv' := [(1, .int (x1 + (1 : Int32))), (0, .ref (ly_o y o0)), (2, .int x2)]) K dX1_goingOn_30 1 rfl rfl (by decide) rfl ?_
          refine v_sub [1, 0, 2] rfl ?_
          exact bX1_goingOn_33 l K hy hQ ih ho0 hF
def fX1_goingOn (M : QM) (o0 : Nat) : Option (Int32 × QM) := (fX1_goingOn_b4 q_F M o0 (0 : Int32) (0 : Int32))
set_option maxRecDepth 100000 in
set_option maxHeartbeats 4000000 in
theorem bX1_goingOn_0 {x : Cx} {y : Ly} (l : Launch) (K : VK x l rmX1_goingOn y 3 cX1_goingOn RX1 wqX1_goingOn) (hy : y.2.2.2.2 = 0) {z : Int32 × QM} (hQ : VQ x y (some (.int z.1)) z.2 (some .int)) {M : QM} {o0 : Nat} (ho0 : kls o0 = 1) (hF : fX1_goingOn M o0 = some z) : V x y 3 M 0 [(0, .ref (ly_o y o0))] [] := by
  unfold fX1_goingOn at hF
  refine v_iconst (pc := 0) (v := 0) K dX1_goingOn_0 rfl ?_
  refine v_istore_n (pc := 1) (lv' := [(1, .int (0 : Int32)), (0, .ref (ly_o y o0))]) K dX1_goingOn_1 1 rfl (by decide) rfl ?_
  refine v_iconst (pc := 2) (v := 0) K dX1_goingOn_2 rfl ?_
  refine v_istore_n (pc := 3) (lv' := [(2, .int (0 : Int32)), (1, .int (0 : Int32)), (0, .ref (ly_o y o0))]) K dX1_goingOn_3 2 rfl (by decide) rfl ?_
  refine v_sub [2, 1, 0] rfl ?_
  exact bX1_goingOn_4 l K hy hQ q_F ho0 hF
set_option maxRecDepth 100000 in
set_option maxHeartbeats 4000000 in
theorem kX1_goingOn (l : Launch) {y : Ly} (hJ : ly_J y) (hy : y.2.2.2.2 = 0) {M M1 : QM} {r : Int32} {o0 : Nat} (ho0 : kls o0 = 1) (hF : fX1_goingOn M o0 = some (r, M1)) : Met l yX1_goingOn wqX1_goingOn rmX1_goingOn (q_P y [.ref (ly_o y o0)] M) (q_E y (some (.int r)) M1) 0 0 (ly_A y) :=
  q_met (by decide) rfl hJ rfl rfl rfl (fun x K hQ => bX1_goingOn_0 l K hy (z := (r, M1)) hQ ho0 hF)
-- ===== X1_takenFirst (I)I
theorem jd_X1_takenFirst : yX1_takenFirst.cls = RX1 ∧ yX1_takenFirst.cls ≠ "java/lang/invoke/MethodHandle" ∧ yX1_takenFirst.cls ≠ "java/lang/invoke/VarHandle" ∧ (parseMethodDescriptor yX1_takenFirst.desc).map (fun d => d.parameters.length) = some 1 := by decide +kernel
abbrev wqX1_takenFirst : List Cond := .code yX1_takenFirst cX1_takenFirst 8 (some .int) :: wsL_law
abbrev rmX1_takenFirst : Room := { frames := 3, cells := 0, slots := 0, locals := 61 }
def fX1_takenFirst_b96 (k8 : QM → Nat → Int32 → Int32 → Int32 → Int32 → Option (Int32 × QM)) (M : QM) (o0 : Nat) (x1 : Int32) (x2 : Int32) (x3 : Int32) (x4 : Int32) : Option (Int32 × QM) := (k8 M o0 x1 x2 x3 (x4 + (1 : Int32)))
set_option maxRecDepth 100000 in
set_option maxHeartbeats 4000000 in
theorem bX1_takenFirst_96 {x : Cx} {y : Ly} (l : Launch) (K : VK x l rmX1_takenFirst y 8 cX1_takenFirst RX1 wqX1_takenFirst) (hy : y.2.2.2.2 = 0) {z : Int32 × QM} (hQ : VQ x y (some (.int z.1)) z.2 (some .int)) {k8 : QM → Nat → Int32 → Int32 → Int32 → Int32 → Option (Int32 × QM)} (hk8 : ∀ {M : QM} {o0 : Nat} {x1 : Int32} {x2 : Int32} {x3 : Int32} {x4 : Int32}, kls o0 = 1 → k8 M o0 x1 x2 x3 x4 = some z → V x y 8 M 8 [(0, .ref (ly_o y o0)), (1, .int x1), (2, .int x2), (3, .int x3), (4, .int x4)] []) {M : QM} {o0 : Nat} {x1 : Int32} {x2 : Int32} {x3 : Int32} {x4 : Int32} (ho0 : kls o0 = 1) (hF : fX1_takenFirst_b96 k8 M o0 x1 x2 x3 x4 = some z) : V x y 8 M 96 [(0, .ref (ly_o y o0)), (1, .int x1), (2, .int x2), (3, .int x3), (4, .int x4)] [] := by
  unfold fX1_takenFirst_b96 at hF
  refine v_iinc (pc := 96) (v1 := x4 + (1 : Int32)) (lv' := [(4, .int (x4 + (1 : Int32))), (0, .ref (ly_o y o0)), (1, .int x1), (2, .int x2), (3, .int x3)]) K dX1_takenFirst_96 4 rfl rfl (by decide) rfl ?_
  refine v_goto (pc := 99) (tgt := 8) K dX1_takenFirst_99 (by decide) ?_
  refine v_sub [1, 2, 3, 4, 0] rfl ?_
  exact hk8 ho0 hF
def fX1_takenFirst_b8 : Nat → QM → Nat → Int32 → Int32 → Int32 → Int32 → Option (Int32 × QM)
  | 0, _, _, _, _, _, _ => none
  | q + 1, M, o0, x1, x2, x3, x4 => if (q_i M o0 7) ≤ x4 then some (x2, M) else if (24 : Int32) ≤ x4 then some (x2, M) else (if q_in x4 24 then (q_b (fX4_sideOf M (el o0 5 x4.toNatClampNeg) x1) fun r3 M4 => if r3 = (-1 : Int32) then (fX1_takenFirst_b96 (fun M o0 x1 x2 x3 x4 => fX1_takenFirst_b8 q M o0 x1 x2 x3 x4) M4 o0 x1 x2 x3 x4) else (q_b (fX4_goesOn M4 (el o0 5 x4.toNatClampNeg)) fun r6 M7 => if r6 = (0 : Int32) then (fX1_takenFirst_b96 (fun M o0 x1 x2 x3 x4 => fX1_takenFirst_b8 q M o0 x1 x2 x3 x4) M7 o0 x1 x2 x3 x4) else (q_b (fX4_now M7 (el o0 5 x4.toNatClampNeg)) fun r9 M10 => (q_b (fX7_owed M10 r9 r3) fun r12 M13 => (q_b (fX4_personOn M13 (el o0 5 x4.toNatClampNeg) ((1 : Int32) - r3)) fun r15 M16 => (q_b (fX1_rankOf M16 o0 r15) fun r18 M19 => if (((10 : Int32) * r12) + r18) ≤ x3 then (fX1_takenFirst_b96 (fun M o0 x1 x2 x3 x4 => fX1_takenFirst_b8 q M o0 x1 x2 x3 x4) M19 o0 x1 x2 x3 x4) else (fX1_takenFirst_b96 (fun M o0 x1 x2 x3 x4 => fX1_takenFirst_b8 q M o0 x1 x2 x3 x4) M19 o0 x1 x4 (((10 : Int32) * r12) + r18) x4))))))) else none)
set_option maxRecDepth 100000 in
set_option maxHeartbeats 4000000 in
theorem bX1_takenFirst_8 {x : Cx} {y : Ly} (l : Launch) (K : VK x l rmX1_takenFirst y 8 cX1_takenFirst RX1 wqX1_takenFirst) (hy : y.2.2.2.2 = 0) {z : Int32 × QM} (hQ : VQ x y (some (.int z.1)) z.2 (some .int)) : ∀ (q : Nat) {M : QM} {o0 : Nat} {x1 : Int32} {x2 : Int32} {x3 : Int32} {x4 : Int32}, kls o0 = 1 →  fX1_takenFirst_b8 q M o0 x1 x2 x3 x4 = some z → V x y 8 M 8 [(0, .ref (ly_o y o0)), (1, .int x1), (2, .int x2), (3, .int x3), (4, .int x4)] [] := by
  intro q
  induction q with
  | zero =>
    intro M o0 x1 x2 x3 x4 ho0 hF
    rw [fX1_takenFirst_b8] at hF
    cases hF
  | succ q ih =>
    intro M o0 x1 x2 x3 x4 ho0 hF
    rw [fX1_takenFirst_b8] at hF
    refine v_iload (pc := 8) K dX1_takenFirst_8 4 rfl ?_
    refine v_aload_n (pc := 10) K dX1_takenFirst_10 0 rfl ?_
    refine gX1_quarrelCount (pc := 11) K hy ho0 jn_X1 (List.mem_cons_of_mem _ jl_X1_42) dX1_takenFirst_11 ?_
    refine v_icmp_ge (pc := 14) (tgt := 102) K dX1_takenFirst_14 (by decide) hF (fun c24 hF => ?_) (fun c24 hF => ?_)
    · refine v_iload_n (pc := 102) K dX1_takenFirst_102 2 rfl ?_
      have hz := (Option.some.inj hF).symm
      subst hz
      exact v_iret (pc := 103) K hQ dX1_takenFirst_103
    · refine v_iload (pc := 17) K dX1_takenFirst_17 4 rfl ?_
      refine v_bipush (pc := 19) (v := 24) K dX1_takenFirst_19 rfl ?_
      refine v_icmp_ge (pc := 21) (tgt := 102) K dX1_takenFirst_21 (by decide) hF (fun c23 hF => ?_) (fun c23 hF => ?_)
      · refine v_iload_n (pc := 102) K dX1_takenFirst_102 2 rfl ?_
        have hz := (Option.some.inj hF).symm
        subst hz
        exact v_iret (pc := 103) K hQ dX1_takenFirst_103
      · refine v_aload_n (pc := 24) K dX1_takenFirst_24 0 rfl ?_
        refine gX1_quarrels (pc := 25) K hy ho0 jn_X1 (List.mem_cons_of_mem _ jl_X1_29) dX1_takenFirst_25 ?_
        refine v_iload (pc := 28) K dX1_takenFirst_28 4 rfl ?_
        refine iX1_quarrels (pc := 30) K hy ho0 hF dX1_takenFirst_30 (fun hi1 hF => ?_)
        refine v_astore (pc := 31) (lv' := [(5, .ref (ly_o y (el o0 5 x4.toNatClampNeg))), (0, .ref (ly_o y o0)), (1, .int x1), (2, .int x2), (3, .int x3), (4, .int x4)]) K 5 dX1_takenFirst_31 (by decide) rfl ?_
        refine v_aload (pc := 33) K dX1_takenFirst_33 0 rfl ?_
        refine v_iload_n (pc := 35) K dX1_takenFirst_35 2 rfl ?_
        obtain ⟨r3, M4, hc2, hF⟩ := q_bE hF
        refine v_callV (pc := 36) (ci := 4) (As := [.int x1]) (rest := []) (st' := [.int r3]) (r := some (.int r3)) (M1 := M4) K (kX4_sideOf l K.2.2.2.2.2.2.1 hy (el_q ho0 hi1) hc2) (jg_V jl_X1_71 jw_i_X4_sideOf jw_s_X4_sideOf jw_n_X4 jw_c_X4_sideOf) rfl rfl rfl jd_X4_sideOf ⟨Nat.le_of_ble_eq_true rfl, Nat.le_of_ble_eq_true rfl⟩ rfl rfl (Nat.le_of_ble_eq_true rfl) (el_q ho0 hi1) (okc_0 hy (by decide)) rfl dX1_takenFirst_36 rfl ?_
        refine v_istore (pc := 39) (lv' := [(6, .int r3), (5, .ref (ly_o y (el o0 5 x4.toNatClampNeg))), (0, .ref (ly_o y o0)), (1, .int x1), (2, .int x2), (3, .int x3), (4, .int x4)]) K 6 dX1_takenFirst_39 (by decide) rfl ?_
        refine v_iload (pc := 41) K dX1_takenFirst_41 0 rfl ?_
        refine v_iconst (pc := 43) (v := -1) K dX1_takenFirst_43 rfl ?_
        refine v_icmp_eq (pc := 44) (tgt := 96) K dX1_takenFirst_44 (by decide) hF (fun c22 hF => ?_) (fun c22 hF => ?_)
        · refine v_sub [2, 3, 4, 5, 6] rfl ?_
          exact bX1_takenFirst_96 l K hy hQ ih ho0 hF
        · refine v_aload (pc := 47) K dX1_takenFirst_47 1 rfl ?_
          obtain ⟨r6, M7, hc5, hF⟩ := q_bE hF
          refine v_callV (pc := 49) (ci := 4) (As := []) (rest := []) (st' := [.int r6]) (r := some (.int r6)) (M1 := M7) K (kX4_goesOn l K.2.2.2.2.2.2.1 hy (el_q ho0 hi1) hc5) (jg_V jl_X1_67 jw_i_X4_goesOn jw_s_X4_goesOn jw_n_X4 jw_c_X4_goesOn) rfl rfl rfl jd_X4_goesOn ⟨Nat.le_of_ble_eq_true rfl, Nat.le_of_ble_eq_true rfl⟩ rfl rfl (Nat.le_of_ble_eq_true rfl) (el_q ho0 hi1) (okc_0 hy (by decide)) rfl dX1_takenFirst_49 rfl ?_
          refine v_if_eq (pc := 52) (tgt := 96) K dX1_takenFirst_52 (by decide) hF (fun c21 hF => ?_) (fun c21 hF => ?_)
          · refine v_sub [2, 3, 4, 5, 6] rfl ?_
            exact bX1_takenFirst_96 l K hy hQ ih ho0 hF
          · refine v_bipush (pc := 55) (v := 10) K dX1_takenFirst_55 rfl ?_
            refine v_aload (pc := 57) K dX1_takenFirst_57 1 rfl ?_
            obtain ⟨r9, M10, hc8, hF⟩ := q_bE hF
            refine v_callV (pc := 59) (ci := 4) (As := []) (rest := [.int (10 : Int32)]) (st' := [.int r9, .int (10 : Int32)]) (r := some (.int r9)) (M1 := M10) K (kX4_now l K.2.2.2.2.2.2.1 hy (el_q ho0 hi1) hc8) (jg_V jl_X1_74 jw_i_X4_now jw_s_X4_now jw_n_X4 jw_c_X4_now) rfl rfl rfl jd_X4_now ⟨Nat.le_of_ble_eq_true rfl, Nat.le_of_ble_eq_true rfl⟩ rfl rfl (Nat.le_of_ble_eq_true rfl) (el_q ho0 hi1) (okc_0 hy (by decide)) rfl dX1_takenFirst_59 rfl ?_
            refine v_iload (pc := 62) K dX1_takenFirst_62 0 rfl ?_
            obtain ⟨r12, M13, hc11, hF⟩ := q_bE hF
            refine v_callS (pc := 64) (As := [.int r9, .int r3]) (rest := [.int (10 : Int32)]) (st' := [.int r12, .int (10 : Int32)]) (r := some (.int r12)) (M1 := M13) K (kX7_owed l K.2.2.2.2.2.2.1 hy hc11) (jg_S jl_X1_78 jw_t_X7_owed jw_n_X7 jw_c_X7_owed) rfl rfl rfl jd_X7_owed ⟨Nat.le_of_ble_eq_true rfl, Nat.le_of_ble_eq_true rfl⟩ rfl rfl (Nat.le_of_ble_eq_true rfl) dX1_takenFirst_64 rfl ?_
            refine v_imul (pc := 67) K dX1_takenFirst_67 ?_
            refine v_aload_n (pc := 68) K dX1_takenFirst_68 2 rfl ?_
            refine v_aload (pc := 69) K dX1_takenFirst_69 1 rfl ?_
            refine v_iconst (pc := 71) (v := 1) K dX1_takenFirst_71 rfl ?_
            refine v_iload (pc := 72) K dX1_takenFirst_72 0 rfl ?_
            refine v_isub (pc := 74) K dX1_takenFirst_74 ?_
            obtain ⟨r15, M16, hc14, hF⟩ := q_bE hF
            refine v_callV (pc := 75) (ci := 4) (As := [.int ((1 : Int32) - r3)]) (rest := [.ref (ly_o y o0), .int ((10 : Int32) * r12)]) (st' := [.int r15, .ref (ly_o y o0), .int ((10 : Int32) * r12)]) (r := some (.int r15)) (M1 := M16) K (kX4_personOn l K.2.2.2.2.2.2.1 hy (el_q ho0 hi1) hc14) (jg_V jl_X1_84 jw_i_X4_personOn jw_s_X4_personOn jw_n_X4 jw_c_X4_personOn) rfl rfl rfl jd_X4_personOn ⟨Nat.le_of_ble_eq_true rfl, Nat.le_of_ble_eq_true rfl⟩ rfl rfl (Nat.le_of_ble_eq_true rfl) (el_q ho0 hi1) (okc_0 hy (by decide)) rfl dX1_takenFirst_75 rfl ?_
            obtain ⟨r18, M19, hc17, hF⟩ := q_bE hF
            refine v_callV (pc := 78) (ci := 1) (As := [.int r15]) (rest := [.int ((10 : Int32) * r12)]) (st' := [.int r18, .int ((10 : Int32) * r12)]) (r := some (.int r18)) (M1 := M19) K (kX1_rankOf l K.2.2.2.2.2.2.1 hy ho0 hc17) (jg_V jl_X1_87 jw_i_X1_rankOf jw_s_X1_rankOf jw_n_X1 jw_c_X1_rankOf) rfl rfl rfl jd_X1_rankOf ⟨Nat.le_of_ble_eq_true rfl, Nat.le_of_ble_eq_true rfl⟩ rfl rfl (Nat.le_of_ble_eq_true rfl) ho0 (okc_0 hy (by decide)) rfl dX1_takenFirst_78 rfl ?_
            refine v_iadd (pc := 81) K dX1_takenFirst_81 ?_
            refine v_istore (pc := 82) (lv' := [(7, .int (((10 : Int32) * r12) + r18)), (6, .int r3), (5, .ref (ly_o y (el o0 5 x4.toNatClampNeg))), (0, .ref (ly_o y o0)), (1, .int x1), (2, .int x2), (3, .int x3), (4, .int x4)]) K 7 dX1_takenFirst_82 (by decide) rfl ?_
            refine v_iload (pc := 84) K dX1_takenFirst_84 0 rfl ?_
            refine v_iload_n (pc := 86) K dX1_takenFirst_86 6 rfl ?_
            refine v_icmp_le (pc := 87) (tgt := 96) K dX1_takenFirst_87 (by decide) hF (fun c20 hF => ?_) (fun c20 hF => ?_)
            · refine v_sub [3, 4, 5, 6, 7] rfl ?_
              exact bX1_takenFirst_96 l K hy hQ ih ho0 hF
            · refine v_iload (pc := 90) K dX1_takenFirst_90 0 rfl ?_
              refine v_istore_n (pc := 92) (lv' := [(3, .int (((10 : Int32) * r12) + r18)), (7, .int (((10 : Int32) * r12) + r18)), (6, .int r3), (5, .ref (ly_o y (el o0 5 x4.toNatClampNeg))), (0, .ref (ly_o y o0)), (1, .int x1), (2, .int x2), (4, .int x4)]) K dX1_takenFirst_92 3 rfl (by decide) rfl ?_
              refine v_iload (pc := 93) K dX1_takenFirst_93 7 rfl ?_
              refine v_istore_n (pc := 95) (lv' := [(2, .int x4), (3, .int (((10 : Int32) * r12) + r18)), (7, .int (((10 : Int32) * r12) + r18)), (6, .int r3), (5, .ref (ly_o y (el o0 5 x4.toNatClampNeg))), (0, .ref (ly_o y o0)), (1, .int x1), (4, .int x4)]) K dX1_takenFirst_95 2 rfl (by decide) rfl ?_
              refine v_sub [5, 6, 0, 1, 7] rfl ?_
              exact bX1_takenFirst_96 l K hy hQ ih ho0 hF
def fX1_takenFirst (M : QM) (o0 : Nat) (x1 : Int32) : Option (Int32 × QM) := (fX1_takenFirst_b8 q_F M o0 x1 (-2 : Int32) (-1 : Int32) (0 : Int32))
set_option maxRecDepth 100000 in
set_option maxHeartbeats 4000000 in
theorem bX1_takenFirst_0 {x : Cx} {y : Ly} (l : Launch) (K : VK x l rmX1_takenFirst y 8 cX1_takenFirst RX1 wqX1_takenFirst) (hy : y.2.2.2.2 = 0) {z : Int32 × QM} (hQ : VQ x y (some (.int z.1)) z.2 (some .int)) {M : QM} {o0 : Nat} {x1 : Int32} (ho0 : kls o0 = 1) (hF : fX1_takenFirst M o0 x1 = some z) : V x y 8 M 0 [(0, .ref (ly_o y o0)), (1, .int x1)] [] := by
  unfold fX1_takenFirst at hF
  refine v_bipush (pc := 0) (v := -2) K dX1_takenFirst_0 rfl ?_
  refine v_istore_n (pc := 2) (lv' := [(2, .int (-2 : Int32)), (0, .ref (ly_o y o0)), (1, .int x1)]) K dX1_takenFirst_2 2 rfl (by decide) rfl ?_
  refine v_iconst (pc := 3) (v := -1) K dX1_takenFirst_3 rfl ?_
  refine v_istore_n (pc := 4) (lv' := [(3, .int (-1 : Int32)), (2, .int (-2 : Int32)), (0, .ref (ly_o y o0)), (1, .int x1)]) K dX1_takenFirst_4 3 rfl (by decide) rfl ?_
  refine v_iconst (pc := 5) (v := 0) K dX1_takenFirst_5 rfl ?_
  refine v_istore (pc := 6) (lv' := [(4, .int (0 : Int32)), (3, .int (-1 : Int32)), (2, .int (-2 : Int32)), (0, .ref (ly_o y o0)), (1, .int x1)]) K 4 dX1_takenFirst_6 (by decide) rfl ?_
  refine v_sub [3, 4, 2, 1, 0] rfl ?_
  exact bX1_takenFirst_8 l K hy hQ q_F ho0 hF
set_option maxRecDepth 100000 in
set_option maxHeartbeats 4000000 in
theorem kX1_takenFirst (l : Launch) {y : Ly} (hJ : ly_J y) (hy : y.2.2.2.2 = 0) {M M1 : QM} {r : Int32} {o0 : Nat} {x1 : Int32} (ho0 : kls o0 = 1) (hF : fX1_takenFirst M o0 x1 = some (r, M1)) : Met l yX1_takenFirst wqX1_takenFirst rmX1_takenFirst (q_P y [.ref (ly_o y o0), .int x1] M) (q_E y (some (.int r)) M1) 0 0 (ly_A y) :=
  q_met (by decide) rfl hJ rfl rfl rfl (fun x K hQ => bX1_takenFirst_0 l K hy (z := (r, M1)) hQ ho0 hF)
-- ===== X1_waitedFor (I)I
theorem jd_X1_waitedFor : yX1_waitedFor.cls = RX1 ∧ yX1_waitedFor.cls ≠ "java/lang/invoke/MethodHandle" ∧ yX1_waitedFor.cls ≠ "java/lang/invoke/VarHandle" ∧ (parseMethodDescriptor yX1_waitedFor.desc).map (fun d => d.parameters.length) = some 1 := by decide +kernel
abbrev wqX1_waitedFor : List Cond := .code yX1_waitedFor cX1_waitedFor 6 (some .int) :: wsL_law
abbrev rmX1_waitedFor : Room := { frames := 4, cells := 0, slots := 0, locals := 88 }
def fX1_waitedFor_b60 (k24 : QM → Nat → Int32 → Nat → Int32 → Int32 → Option (Int32 × QM)) (M : QM) (o0 : Nat) (x1 : Int32) (o2 : Nat) (x3 : Int32) (x4 : Int32) : Option (Int32 × QM) := (k24 M o0 x1 o2 x3 (x4 + (1 : Int32)))
set_option maxRecDepth 100000 in
set_option maxHeartbeats 4000000 in
theorem bX1_waitedFor_60 {x : Cx} {y : Ly} (l : Launch) (K : VK x l rmX1_waitedFor y 6 cX1_waitedFor RX1 wqX1_waitedFor) (hy : y.2.2.2.2 = 0) {z : Int32 × QM} (hQ : VQ x y (some (.int z.1)) z.2 (some .int)) {k24 : QM → Nat → Int32 → Nat → Int32 → Int32 → Option (Int32 × QM)} (hk24 : ∀ {M : QM} {o0 : Nat} {x1 : Int32} {o2 : Nat} {x3 : Int32} {x4 : Int32}, kls o0 = 1 → kls o2 = 4 → k24 M o0 x1 o2 x3 x4 = some z → V x y 6 M 24 [(0, .ref (ly_o y o0)), (1, .int x1), (2, .ref (ly_o y o2)), (3, .int x3), (4, .int x4)] []) {M : QM} {o0 : Nat} {x1 : Int32} {o2 : Nat} {x3 : Int32} {x4 : Int32} (ho0 : kls o0 = 1) (ho2 : kls o2 = 4) (hF : fX1_waitedFor_b60 k24 M o0 x1 o2 x3 x4 = some z) : V x y 6 M 60 [(0, .ref (ly_o y o0)), (1, .int x1), (2, .ref (ly_o y o2)), (3, .int x3), (4, .int x4)] [] := by
  unfold fX1_waitedFor_b60 at hF
  refine v_iinc (pc := 60) (v1 := x4 + (1 : Int32)) (lv' := [(4, .int (x4 + (1 : Int32))), (0, .ref (ly_o y o0)), (1, .int x1), (2, .ref (ly_o y o2)), (3, .int x3)]) K dX1_waitedFor_60 4 rfl rfl (by decide) rfl ?_
  refine v_goto (pc := 63) (tgt := 24) K dX1_waitedFor_63 (by decide) ?_
  refine v_sub [1, 2, 3, 4, 0] rfl ?_
  exact hk24 ho0 ho2 hF
def fX1_waitedFor_b24 : Nat → QM → Nat → Int32 → Nat → Int32 → Int32 → Option (Int32 × QM)
  | 0, _, _, _, _, _, _ => none
  | q + 1, M, o0, x1, o2, x3, x4 => if (2 : Int32) ≤ x4 then some (x3, M) else (q_b (fX4_personOn M o2 x4) fun r11 M12 => (q_b (fX1_takenFirst M12 o0 r11) fun r14 M15 => if r14 < (0 : Int32) then (fX1_waitedFor_b60 (fun M o0 x1 o2 x3 x4 => fX1_waitedFor_b24 q M o0 x1 o2 x3 x4) M15 o0 x1 o2 x3 x4) else if r14 = x1 then (fX1_waitedFor_b60 (fun M o0 x1 o2 x3 x4 => fX1_waitedFor_b24 q M o0 x1 o2 x3 x4) M15 o0 x1 o2 x3 x4) else (fX1_waitedFor_b60 (fun M o0 x1 o2 x3 x4 => fX1_waitedFor_b24 q M o0 x1 o2 x3 x4) M15 o0 x1 o2 (x3 ||| ((1 : Int32) <<< (r14 &&& (31 : Int32)))) x4)))
set_option maxRecDepth 100000 in
set_option maxHeartbeats 4000000 in
theorem bX1_waitedFor_24 {x : Cx} {y : Ly} (l : Launch) (K : VK x l rmX1_waitedFor y 6 cX1_waitedFor RX1 wqX1_waitedFor) (hy : y.2.2.2.2 = 0) {z : Int32 × QM} (hQ : VQ x y (some (.int z.1)) z.2 (some .int)) : ∀ (q : Nat) {M : QM} {o0 : Nat} {x1 : Int32} {o2 : Nat} {x3 : Int32} {x4 : Int32}, kls o0 = 1 → kls o2 = 4 →  fX1_waitedFor_b24 q M o0 x1 o2 x3 x4 = some z → V x y 6 M 24 [(0, .ref (ly_o y o0)), (1, .int x1), (2, .ref (ly_o y o2)), (3, .int x3), (4, .int x4)] [] := by
  intro q
  induction q with
  | zero =>
    intro M o0 x1 o2 x3 x4 ho0 ho2 hF
    rw [fX1_waitedFor_b24] at hF
    cases hF
  | succ q ih =>
    intro M o0 x1 o2 x3 x4 ho0 ho2 hF
    rw [fX1_waitedFor_b24] at hF
    refine v_iload (pc := 24) K dX1_waitedFor_24 4 rfl ?_
    refine v_iconst (pc := 26) (v := 2) K dX1_waitedFor_26 rfl ?_
    refine v_icmp_ge (pc := 27) (tgt := 66) K dX1_waitedFor_27 (by decide) hF (fun c18 hF => ?_) (fun c18 hF => ?_)
    · refine v_iload_n (pc := 66) K dX1_waitedFor_66 3 rfl ?_
      have hz := (Option.some.inj hF).symm
      subst hz
      exact v_iret (pc := 67) K hQ dX1_waitedFor_67
    · refine v_aload_n (pc := 30) K dX1_waitedFor_30 0 rfl ?_
      refine v_aload_n (pc := 31) K dX1_waitedFor_31 2 rfl ?_
      refine v_iload (pc := 32) K dX1_waitedFor_32 4 rfl ?_
      obtain ⟨r11, M12, hc10, hF⟩ := q_bE hF
      refine v_callV (pc := 34) (ci := 4) (As := [.int x4]) (rest := [.ref (ly_o y o0)]) (st' := [.int r11, .ref (ly_o y o0)]) (r := some (.int r11)) (M1 := M12) K (kX4_personOn l K.2.2.2.2.2.2.1 hy ho2 hc10) (jg_V jl_X1_84 jw_i_X4_personOn jw_s_X4_personOn jw_n_X4 jw_c_X4_personOn) rfl rfl rfl jd_X4_personOn ⟨Nat.le_of_ble_eq_true rfl, Nat.le_of_ble_eq_true rfl⟩ rfl rfl (Nat.le_of_ble_eq_true rfl) ho2 (okc_0 hy (by decide)) rfl dX1_waitedFor_34 rfl ?_
      obtain ⟨r14, M15, hc13, hF⟩ := q_bE hF
      refine v_callV (pc := 37) (ci := 1) (As := [.int r11]) (rest := []) (st' := [.int r14]) (r := some (.int r14)) (M1 := M15) K (kX1_takenFirst l K.2.2.2.2.2.2.1 hy ho0 hc13) (jg_V jl_X1_94 jw_i_X1_takenFirst jw_s_X1_takenFirst jw_n_X1 jw_c_X1_takenFirst) rfl rfl rfl jd_X1_takenFirst ⟨Nat.le_of_ble_eq_true rfl, Nat.le_of_ble_eq_true rfl⟩ rfl rfl (Nat.le_of_ble_eq_true rfl) ho0 (okc_0 hy (by decide)) rfl dX1_waitedFor_37 rfl ?_
      refine v_istore (pc := 40) (lv' := [(5, .int r14), (0, .ref (ly_o y o0)), (1, .int x1), (2, .ref (ly_o y o2)), (3, .int x3), (4, .int x4)]) K 5 dX1_waitedFor_40 (by decide) rfl ?_
      refine v_iload (pc := 42) K dX1_waitedFor_42 0 rfl ?_
      refine v_if_lt (pc := 44) (tgt := 60) K dX1_waitedFor_44 (by decide) hF (fun c17 hF => ?_) (fun c17 hF => ?_)
      · refine v_sub [1, 2, 3, 4, 5] rfl ?_
        exact bX1_waitedFor_60 l K hy hQ ih ho0 ho2 hF
      · refine v_iload (pc := 47) K dX1_waitedFor_47 0 rfl ?_
        refine v_iload_n (pc := 49) K dX1_waitedFor_49 2 rfl ?_
        refine v_icmp_eq (pc := 50) (tgt := 60) K dX1_waitedFor_50 (by decide) hF (fun c16 hF => ?_) (fun c16 hF => ?_)
        · refine v_sub [1, 2, 3, 4, 5] rfl ?_
          exact bX1_waitedFor_60 l K hy hQ ih ho0 ho2 hF
        · refine v_iload_n (pc := 53) K dX1_waitedFor_53 4 rfl ?_
          refine v_iconst (pc := 54) (v := 1) K dX1_waitedFor_54 rfl ?_
          refine v_iload (pc := 55) K dX1_waitedFor_55 0 rfl ?_
          refine v_ishl (pc := 57) K dX1_waitedFor_57 ?_
          refine v_ior (pc := 58) K dX1_waitedFor_58 ?_
          refine v_istore_n (pc := 59) (lv' := [(3, .int (x3 ||| ((1 : Int32) <<< (r14 &&& (31 : Int32))))), (5, .int r14), (0, .ref (ly_o y o0)), (1, .int x1), (2, .ref (ly_o y o2)), (4, .int x4)]) K dX1_waitedFor_59 3 rfl (by decide) rfl ?_
          refine v_sub [2, 3, 4, 0, 5] rfl ?_
          exact bX1_waitedFor_60 l K hy hQ ih ho0 ho2 hF
def fX1_waitedFor (M : QM) (o0 : Nat) (x1 : Int32) : Option (Int32 × QM) := (q_b (fX1_quarrelAt M o0 x1) fun r2 M3 => q_o r2 (some ((0 : Int32), M3)) fun o4 => (if kls o4 = 4 then (q_b (fX4_goesOn M3 o4) fun r7 M8 => if r7 ≠ (0 : Int32) then (fX1_waitedFor_b24 q_F M8 o0 x1 o4 (0 : Int32) (0 : Int32)) else some ((0 : Int32), M8)) else none))
set_option maxRecDepth 100000 in
set_option maxHeartbeats 4000000 in
theorem bX1_waitedFor_0 {x : Cx} {y : Ly} (l : Launch) (K : VK x l rmX1_waitedFor y 6 cX1_waitedFor RX1 wqX1_waitedFor) (hy : y.2.2.2.2 = 0) {z : Int32 × QM} (hQ : VQ x y (some (.int z.1)) z.2 (some .int)) {M : QM} {o0 : Nat} {x1 : Int32} (ho0 : kls o0 = 1) (hF : fX1_waitedFor M o0 x1 = some z) : V x y 6 M 0 [(0, .ref (ly_o y o0)), (1, .int x1)] [] := by
  unfold fX1_waitedFor at hF
  refine v_aload_n (pc := 0) K dX1_waitedFor_0 0 rfl ?_
  refine v_iload_n (pc := 1) K dX1_waitedFor_1 1 rfl ?_
  obtain ⟨r2, M3, hc1, hF⟩ := q_bE hF
  cases r2 with
  | none =>
    refine v_callV (pc := 2) (ci := 1) (As := [.int x1]) (rest := []) (st' := [.null]) (r := some .null) (M1 := M3) K (kX1_quarrelAt l K.2.2.2.2.2.2.1 hy ho0 hc1) (jg_V jl_X1_90 jw_i_X1_quarrelAt jw_s_X1_quarrelAt jw_n_X1 jw_c_X1_quarrelAt) rfl rfl rfl jd_X1_quarrelAt ⟨Nat.le_of_ble_eq_true rfl, Nat.le_of_ble_eq_true rfl⟩ rfl rfl (Nat.le_of_ble_eq_true rfl) ho0 (okc_0 hy (by decide)) rfl dX1_waitedFor_2 rfl ?_
    refine v_astore_nN (pc := 5) (lv' := [(2, .null), (0, .ref (ly_o y o0)), (1, .int x1)]) K dX1_waitedFor_5 2 rfl (by decide) rfl ?_
    refine v_aload_nN (pc := 6) K dX1_waitedFor_6 0 rfl ?_
    refine v_ifnullN (pc := 7) (tgt := 17) K dX1_waitedFor_7 (by decide) ?_
    refine v_iconst (pc := 17) (v := 0) K dX1_waitedFor_17 rfl ?_
    have hz := (Option.some.inj hF).symm
    subst hz
    exact v_iret (pc := 18) K hQ dX1_waitedFor_18
  | some o4 =>
    obtain ⟨ho5, hF⟩ := q_kE hF
    refine v_callV (pc := 2) (ci := 1) (As := [.int x1]) (rest := []) (st' := [.ref (ly_o y o4)]) (r := some (.ref (ly_o y o4))) (M1 := M3) K (kX1_quarrelAt l K.2.2.2.2.2.2.1 hy ho0 hc1) (jg_V jl_X1_90 jw_i_X1_quarrelAt jw_s_X1_quarrelAt jw_n_X1 jw_c_X1_quarrelAt) rfl rfl rfl jd_X1_quarrelAt ⟨Nat.le_of_ble_eq_true rfl, Nat.le_of_ble_eq_true rfl⟩ rfl rfl (Nat.le_of_ble_eq_true rfl) ho0 (okc_0 hy (by decide)) rfl dX1_waitedFor_2 rfl ?_
    refine v_astore_n (pc := 5) (lv' := [(2, .ref (ly_o y o4)), (0, .ref (ly_o y o0)), (1, .int x1)]) K dX1_waitedFor_5 2 rfl (by decide) rfl ?_
    refine v_aload_n (pc := 6) K dX1_waitedFor_6 0 rfl ?_
    refine v_ifnull (pc := 7) K dX1_waitedFor_7 ?_
    refine v_aload_n (pc := 10) K dX1_waitedFor_10 0 rfl ?_
    obtain ⟨r7, M8, hc6, hF⟩ := q_bE hF
    refine v_callV (pc := 11) (ci := 4) (As := []) (rest := []) (st' := [.int r7]) (r := some (.int r7)) (M1 := M8) K (kX4_goesOn l K.2.2.2.2.2.2.1 hy ho5 hc6) (jg_V jl_X1_67 jw_i_X4_goesOn jw_s_X4_goesOn jw_n_X4 jw_c_X4_goesOn) rfl rfl rfl jd_X4_goesOn ⟨Nat.le_of_ble_eq_true rfl, Nat.le_of_ble_eq_true rfl⟩ rfl rfl (Nat.le_of_ble_eq_true rfl) ho5 (okc_0 hy (by decide)) rfl dX1_waitedFor_11 rfl ?_
    refine v_if_ne (pc := 14) (tgt := 19) K dX1_waitedFor_14 (by decide) hF (fun c9 hF => ?_) (fun c9 hF => ?_)
    · refine v_iconst (pc := 19) (v := 0) K dX1_waitedFor_19 rfl ?_
      refine v_istore_n (pc := 20) (lv' := [(3, .int (0 : Int32)), (2, .ref (ly_o y o4)), (0, .ref (ly_o y o0)), (1, .int x1)]) K dX1_waitedFor_20 3 rfl (by decide) rfl ?_
      refine v_iconst (pc := 21) (v := 0) K dX1_waitedFor_21 rfl ?_
      refine v_istore (pc := 22) (lv' := [(4, .int (0 : Int32)), (3, .int (0 : Int32)), (2, .ref (ly_o y o4)), (0, .ref (ly_o y o0)), (1, .int x1)]) K 4 dX1_waitedFor_22 (by decide) rfl ?_
      refine v_sub [3, 4, 2, 1, 0] rfl ?_
      exact bX1_waitedFor_24 l K hy hQ q_F ho0 ho5 hF
    · refine v_iconst (pc := 17) (v := 0) K dX1_waitedFor_17 rfl ?_
      have hz := (Option.some.inj hF).symm
      subst hz
      exact v_iret (pc := 18) K hQ dX1_waitedFor_18
set_option maxRecDepth 100000 in
set_option maxHeartbeats 4000000 in
theorem kX1_waitedFor (l : Launch) {y : Ly} (hJ : ly_J y) (hy : y.2.2.2.2 = 0) {M M1 : QM} {r : Int32} {o0 : Nat} {x1 : Int32} (ho0 : kls o0 = 1) (hF : fX1_waitedFor M o0 x1 = some (r, M1)) : Met l yX1_waitedFor wqX1_waitedFor rmX1_waitedFor (q_P y [.ref (ly_o y o0), .int x1] M) (q_E y (some (.int r)) M1) 0 0 (ly_A y) :=
  q_met (by decide) rfl hJ rfl rfl rfl (fun x K hQ => bX1_waitedFor_0 l K hy (z := (r, M1)) hQ ho0 hF)
-- ===== X1_isInRing (I)Z
theorem jd_X1_isInRing : yX1_isInRing.cls = RX1 ∧ yX1_isInRing.cls ≠ "java/lang/invoke/MethodHandle" ∧ yX1_isInRing.cls ≠ "java/lang/invoke/VarHandle" ∧ (parseMethodDescriptor yX1_isInRing.desc).map (fun d => d.parameters.length) = some 1 := by decide +kernel
abbrev wqX1_isInRing : List Cond := .code yX1_isInRing cX1_isInRing 7 (some .boolean) :: wsL_law
abbrev rmX1_isInRing : Room := { frames := 5, cells := 0, slots := 0, locals := 113 }
def fX1_isInRing_b62 (k35 : QM → Nat → Int32 → Int32 → Int32 → Int32 → Int32 → Int32 → Option (Int32 × QM)) (k11 : QM → Nat → Int32 → Int32 → Int32 → Int32 → Option (Int32 × QM)) (M : QM) (o0 : Nat) (x1 : Int32) (x2 : Int32) (x3 : Int32) (x4 : Int32) (x5 : Int32) (x6 : Int32) : Option (Int32 × QM) := (k35 M o0 x1 x2 x3 x4 x5 (x6 + (1 : Int32)))
set_option maxRecDepth 100000 in
set_option maxHeartbeats 4000000 in
theorem bX1_isInRing_62 {x : Cx} {y : Ly} (l : Launch) (K : VK x l rmX1_isInRing y 7 cX1_isInRing RX1 wqX1_isInRing) (hy : y.2.2.2.2 = 0) {z : Int32 × QM} (hQ : VQ x y (some (.int z.1)) z.2 (some .boolean)) {k35 : QM → Nat → Int32 → Int32 → Int32 → Int32 → Int32 → Int32 → Option (Int32 × QM)} (hk35 : ∀ {M : QM} {o0 : Nat} {x1 : Int32} {x2 : Int32} {x3 : Int32} {x4 : Int32} {x5 : Int32} {x6 : Int32}, kls o0 = 1 → k35 M o0 x1 x2 x3 x4 x5 x6 = some z → V x y 7 M 35 [(0, .ref (ly_o y o0)), (1, .int x1), (2, .int x2), (3, .int x3), (4, .int x4), (5, .int x5), (6, .int x6)] []) {k11 : QM → Nat → Int32 → Int32 → Int32 → Int32 → Option (Int32 × QM)} (hk11 : ∀ {M : QM} {o0 : Nat} {x1 : Int32} {x2 : Int32} {x3 : Int32} {x4 : Int32}, kls o0 = 1 → k11 M o0 x1 x2 x3 x4 = some z → V x y 7 M 11 [(0, .ref (ly_o y o0)), (1, .int x1), (2, .int x2), (3, .int x3), (4, .int x4)] []) {M : QM} {o0 : Nat} {x1 : Int32} {x2 : Int32} {x3 : Int32} {x4 : Int32} {x5 : Int32} {x6 : Int32} (ho0 : kls o0 = 1) (hF : fX1_isInRing_b62 k35 k11 M o0 x1 x2 x3 x4 x5 x6 = some z) : V x y 7 M 62 [(0, .ref (ly_o y o0)), (1, .int x1), (2, .int x2), (3, .int x3), (4, .int x4), (5, .int x5), (6, .int x6)] [] := by
  unfold fX1_isInRing_b62 at hF
  refine v_iinc (pc := 62) (v1 := x6 + (1 : Int32)) (lv' := [(6, .int (x6 + (1 : Int32))), (0, .ref (ly_o y o0)), (1, .int x1), (2, .int x2), (3, .int x3), (4, .int x4), (5, .int x5)]) K dX1_isInRing_62 6 rfl rfl (by decide) rfl ?_
  refine v_goto (pc := 65) (tgt := 35) K dX1_isInRing_65 (by decide) ?_
  refine v_sub [1, 2, 3, 4, 5, 6, 0] rfl ?_
  exact hk35 ho0 hF
def fX1_isInRing_b68 (k11 : QM → Nat → Int32 → Int32 → Int32 → Int32 → Option (Int32 × QM)) (M : QM) (o0 : Nat) (x1 : Int32) (x2 : Int32) (x3 : Int32) (x4 : Int32) : Option (Int32 × QM) := (k11 M o0 x1 x2 x3 (x4 + (1 : Int32)))
set_option maxRecDepth 100000 in
set_option maxHeartbeats 4000000 in
theorem bX1_isInRing_68 {x : Cx} {y : Ly} (l : Launch) (K : VK x l rmX1_isInRing y 7 cX1_isInRing RX1 wqX1_isInRing) (hy : y.2.2.2.2 = 0) {z : Int32 × QM} (hQ : VQ x y (some (.int z.1)) z.2 (some .boolean)) {k11 : QM → Nat → Int32 → Int32 → Int32 → Int32 → Option (Int32 × QM)} (hk11 : ∀ {M : QM} {o0 : Nat} {x1 : Int32} {x2 : Int32} {x3 : Int32} {x4 : Int32}, kls o0 = 1 → k11 M o0 x1 x2 x3 x4 = some z → V x y 7 M 11 [(0, .ref (ly_o y o0)), (1, .int x1), (2, .int x2), (3, .int x3), (4, .int x4)] []) {M : QM} {o0 : Nat} {x1 : Int32} {x2 : Int32} {x3 : Int32} {x4 : Int32} (ho0 : kls o0 = 1) (hF : fX1_isInRing_b68 k11 M o0 x1 x2 x3 x4 = some z) : V x y 7 M 68 [(0, .ref (ly_o y o0)), (1, .int x1), (2, .int x2), (3, .int x3), (4, .int x4)] [] := by
  unfold fX1_isInRing_b68 at hF
  refine v_iinc (pc := 68) (v1 := x4 + (1 : Int32)) (lv' := [(4, .int (x4 + (1 : Int32))), (0, .ref (ly_o y o0)), (1, .int x1), (2, .int x2), (3, .int x3)]) K dX1_isInRing_68 4 rfl rfl (by decide) rfl ?_
  refine v_goto (pc := 71) (tgt := 11) K dX1_isInRing_71 (by decide) ?_
  refine v_sub [1, 2, 3, 4, 0] rfl ?_
  exact hk11 ho0 hF
def fX1_isInRing_b35 (k11 : QM → Nat → Int32 → Int32 → Int32 → Int32 → Option (Int32 × QM)) : Nat → QM → Nat → Int32 → Int32 → Int32 → Int32 → Int32 → Int32 → Option (Int32 × QM)
  | 0, _, _, _, _, _, _, _, _ => none
  | q + 1, M, o0, x1, x2, x3, x4, x5, x6 => if (24 : Int32) ≤ x6 then (fX1_isInRing_b68 k11 M o0 x1 x2 x3 x4) else if ((x5 >>> (x6 &&& (31 : Int32))) &&& (1 : Int32)) ≠ (1 : Int32) then (fX1_isInRing_b62 (fun M o0 x1 x2 x3 x4 x5 x6 => fX1_isInRing_b35 k11 q M o0 x1 x2 x3 x4 x5 x6) k11 M o0 x1 x2 x3 x4 x5 x6) else (q_b (fX1_waitedFor M o0 x6) fun r7 M8 => (fX1_isInRing_b62 (fun M o0 x1 x2 x3 x4 x5 x6 => fX1_isInRing_b35 k11 q M o0 x1 x2 x3 x4 x5 x6) k11 M8 o0 x1 x2 (x3 ||| r7) x4 x5 x6))
set_option maxRecDepth 100000 in
set_option maxHeartbeats 4000000 in
theorem bX1_isInRing_35 {x : Cx} {y : Ly} (l : Launch) (K : VK x l rmX1_isInRing y 7 cX1_isInRing RX1 wqX1_isInRing) (hy : y.2.2.2.2 = 0) {z : Int32 × QM} (hQ : VQ x y (some (.int z.1)) z.2 (some .boolean)) {k11 : QM → Nat → Int32 → Int32 → Int32 → Int32 → Option (Int32 × QM)} (hk11 : ∀ {M : QM} {o0 : Nat} {x1 : Int32} {x2 : Int32} {x3 : Int32} {x4 : Int32}, kls o0 = 1 → k11 M o0 x1 x2 x3 x4 = some z → V x y 7 M 11 [(0, .ref (ly_o y o0)), (1, .int x1), (2, .int x2), (3, .int x3), (4, .int x4)] []) : ∀ (q : Nat) {M : QM} {o0 : Nat} {x1 : Int32} {x2 : Int32} {x3 : Int32} {x4 : Int32} {x5 : Int32} {x6 : Int32}, kls o0 = 1 →  fX1_isInRing_b35 k11 q M o0 x1 x2 x3 x4 x5 x6 = some z → V x y 7 M 35 [(0, .ref (ly_o y o0)), (1, .int x1), (2, .int x2), (3, .int x3), (4, .int x4), (5, .int x5), (6, .int x6)] [] := by
  intro q
  induction q with
  | zero =>
    intro M o0 x1 x2 x3 x4 x5 x6 ho0 hF
    rw [fX1_isInRing_b35] at hF
    cases hF
  | succ q ih =>
    intro M o0 x1 x2 x3 x4 x5 x6 ho0 hF
    rw [fX1_isInRing_b35] at hF
    refine v_iload (pc := 35) K dX1_isInRing_35 6 rfl ?_
    refine v_bipush (pc := 37) (v := 24) K dX1_isInRing_37 rfl ?_
    refine v_icmp_ge (pc := 39) (tgt := 68) K dX1_isInRing_39 (by decide) hF (fun c10 hF => ?_) (fun c10 hF => ?_)
    · refine v_sub [0, 1, 2, 3, 4] rfl ?_
      exact bX1_isInRing_68 l K hy hQ hk11 ho0 hF
    · refine v_iload (pc := 42) K dX1_isInRing_42 5 rfl ?_
      refine v_iload (pc := 44) K dX1_isInRing_44 6 rfl ?_
      refine v_ishr (pc := 46) K dX1_isInRing_46 ?_
      refine v_iconst (pc := 47) (v := 1) K dX1_isInRing_47 rfl ?_
      refine v_iand (pc := 48) K dX1_isInRing_48 ?_
      refine v_iconst (pc := 49) (v := 1) K dX1_isInRing_49 rfl ?_
      refine v_icmp_ne (pc := 50) (tgt := 62) K dX1_isInRing_50 (by decide) hF (fun c9 hF => ?_) (fun c9 hF => ?_)
      · exact bX1_isInRing_62 l K hy hQ ih hk11 ho0 hF
      · refine v_iload_n (pc := 53) K dX1_isInRing_53 3 rfl ?_
        refine v_aload_n (pc := 54) K dX1_isInRing_54 0 rfl ?_
        refine v_iload (pc := 55) K dX1_isInRing_55 6 rfl ?_
        obtain ⟨r7, M8, hc6, hF⟩ := q_bE hF
        refine v_callV (pc := 57) (ci := 1) (As := [.int x6]) (rest := [.int x3]) (st' := [.int r7, .int x3]) (r := some (.int r7)) (M1 := M8) K (kX1_waitedFor l K.2.2.2.2.2.2.1 hy ho0 hc6) (jg_V jl_X1_97 jw_i_X1_waitedFor jw_s_X1_waitedFor jw_n_X1 jw_c_X1_waitedFor) rfl rfl rfl jd_X1_waitedFor ⟨Nat.le_of_ble_eq_true rfl, Nat.le_of_ble_eq_true rfl⟩ rfl rfl (Nat.le_of_ble_eq_true rfl) ho0 (okc_0 hy (by decide)) rfl dX1_isInRing_57 rfl ?_
        refine v_ior (pc := 60) K dX1_isInRing_60 ?_
        refine v_istore_n (pc := 61) (lv' := [(3, .int (x3 ||| r7)), (0, .ref (ly_o y o0)), (1, .int x1), (2, .int x2), (4, .int x4), (5, .int x5), (6, .int x6)]) K dX1_isInRing_61 3 rfl (by decide) rfl ?_
        refine v_sub [1, 2, 3, 0, 4, 5, 6] rfl ?_
        exact bX1_isInRing_62 l K hy hQ ih hk11 ho0 hF
def fX1_isInRing_b74 (M : QM) (x1 : Int32) (x3 : Int32) : Option (Int32 × QM) := if x1 < (0 : Int32) then some ((0 : Int32), M) else if (24 : Int32) ≤ x1 then some ((0 : Int32), M) else if ((x3 >>> (x1 &&& (31 : Int32))) &&& (1 : Int32)) ≠ (1 : Int32) then some ((0 : Int32), M) else some ((1 : Int32), M)
set_option maxRecDepth 100000 in
set_option maxHeartbeats 4000000 in
theorem bX1_isInRing_74 {x : Cx} {y : Ly} (l : Launch) (K : VK x l rmX1_isInRing y 7 cX1_isInRing RX1 wqX1_isInRing) (hy : y.2.2.2.2 = 0) {z : Int32 × QM} (hQ : VQ x y (some (.int z.1)) z.2 (some .boolean)) {M : QM} {x1 : Int32} {x3 : Int32} (hF : fX1_isInRing_b74 M x1 x3 = some z) : V x y 7 M 74 [(1, .int x1), (3, .int x3)] [] := by
  unfold fX1_isInRing_b74 at hF
  refine v_iload_n (pc := 74) K dX1_isInRing_74 0 rfl ?_
  refine v_if_lt (pc := 75) (tgt := 97) K dX1_isInRing_75 (by decide) hF (fun c13 hF => ?_) (fun c13 hF => ?_)
  · refine v_iconst (pc := 97) (v := 0) K dX1_isInRing_97 rfl ?_
    have hz := (Option.some.inj hF).symm
    subst hz
    exact v_zret (pc := 98) K hQ rfl dX1_isInRing_98
  · refine v_iload_n (pc := 78) K dX1_isInRing_78 0 rfl ?_
    refine v_bipush (pc := 79) (v := 24) K dX1_isInRing_79 rfl ?_
    refine v_icmp_ge (pc := 81) (tgt := 97) K dX1_isInRing_81 (by decide) hF (fun c12 hF => ?_) (fun c12 hF => ?_)
    · refine v_iconst (pc := 97) (v := 0) K dX1_isInRing_97 rfl ?_
      have hz := (Option.some.inj hF).symm
      subst hz
      exact v_zret (pc := 98) K hQ rfl dX1_isInRing_98
    · refine v_iload_n (pc := 84) K dX1_isInRing_84 1 rfl ?_
      refine v_iload_n (pc := 85) K dX1_isInRing_85 0 rfl ?_
      refine v_ishr (pc := 86) K dX1_isInRing_86 ?_
      refine v_iconst (pc := 87) (v := 1) K dX1_isInRing_87 rfl ?_
      refine v_iand (pc := 88) K dX1_isInRing_88 ?_
      refine v_iconst (pc := 89) (v := 1) K dX1_isInRing_89 rfl ?_
      refine v_icmp_ne (pc := 90) (tgt := 97) K dX1_isInRing_90 (by decide) hF (fun c11 hF => ?_) (fun c11 hF => ?_)
      · refine v_iconst (pc := 97) (v := 0) K dX1_isInRing_97 rfl ?_
        have hz := (Option.some.inj hF).symm
        subst hz
        exact v_zret (pc := 98) K hQ rfl dX1_isInRing_98
      · refine v_iconst (pc := 93) (v := 1) K dX1_isInRing_93 rfl ?_
        refine v_goto (pc := 94) (tgt := 98) K dX1_isInRing_94 (by decide) ?_
        have hz := (Option.some.inj hF).symm
        subst hz
        exact v_zret (pc := 98) K hQ rfl dX1_isInRing_98
def fX1_isInRing_b11 : Nat → QM → Nat → Int32 → Int32 → Int32 → Int32 → Option (Int32 × QM)
  | 0, _, _, _, _, _, _ => none
  | q + 1, M, o0, x1, x2, x3, x4 => if (24 : Int32) ≤ x4 then (fX1_isInRing_b74 M x1 x3) else if x3 = x2 then (fX1_isInRing_b74 M x1 x3) else (fX1_isInRing_b35 (fun M o0 x1 x2 x3 x4 => fX1_isInRing_b11 q M o0 x1 x2 x3 x4) q_F M o0 x1 x3 x3 x4 (x3 &&& (x2 ^^^ (-1 : Int32))) (0 : Int32))
set_option maxRecDepth 100000 in
set_option maxHeartbeats 4000000 in
theorem bX1_isInRing_11 {x : Cx} {y : Ly} (l : Launch) (K : VK x l rmX1_isInRing y 7 cX1_isInRing RX1 wqX1_isInRing) (hy : y.2.2.2.2 = 0) {z : Int32 × QM} (hQ : VQ x y (some (.int z.1)) z.2 (some .boolean)) : ∀ (q : Nat) {M : QM} {o0 : Nat} {x1 : Int32} {x2 : Int32} {x3 : Int32} {x4 : Int32}, kls o0 = 1 →  fX1_isInRing_b11 q M o0 x1 x2 x3 x4 = some z → V x y 7 M 11 [(0, .ref (ly_o y o0)), (1, .int x1), (2, .int x2), (3, .int x3), (4, .int x4)] [] := by
  intro q
  induction q with
  | zero =>
    intro M o0 x1 x2 x3 x4 ho0 hF
    rw [fX1_isInRing_b11] at hF
    cases hF
  | succ q ih =>
    intro M o0 x1 x2 x3 x4 ho0 hF
    rw [fX1_isInRing_b11] at hF
    refine v_iload (pc := 11) K dX1_isInRing_11 4 rfl ?_
    refine v_bipush (pc := 13) (v := 24) K dX1_isInRing_13 rfl ?_
    refine v_icmp_ge (pc := 15) (tgt := 74) K dX1_isInRing_15 (by decide) hF (fun c5 hF => ?_) (fun c5 hF => ?_)
    · refine v_sub [1, 3] rfl ?_
      exact bX1_isInRing_74 l K hy hQ hF
    · refine v_iload_n (pc := 18) K dX1_isInRing_18 3 rfl ?_
      refine v_iload_n (pc := 19) K dX1_isInRing_19 2 rfl ?_
      refine v_icmp_eq (pc := 20) (tgt := 74) K dX1_isInRing_20 (by decide) hF (fun c4 hF => ?_) (fun c4 hF => ?_)
      · refine v_sub [1, 3] rfl ?_
        exact bX1_isInRing_74 l K hy hQ hF
      · refine v_iload_n (pc := 23) K dX1_isInRing_23 3 rfl ?_
        refine v_iload_n (pc := 24) K dX1_isInRing_24 2 rfl ?_
        refine v_iconst (pc := 25) (v := -1) K dX1_isInRing_25 rfl ?_
        refine v_ixor (pc := 26) K dX1_isInRing_26 ?_
        refine v_iand (pc := 27) K dX1_isInRing_27 ?_
        refine v_istore (pc := 28) (lv' := [(5, .int (x3 &&& (x2 ^^^ (-1 : Int32)))), (0, .ref (ly_o y o0)), (1, .int x1), (2, .int x2), (3, .int x3), (4, .int x4)]) K 5 dX1_isInRing_28 (by decide) rfl ?_
        refine v_iload_n (pc := 30) K dX1_isInRing_30 4 rfl ?_
        refine v_istore_n (pc := 31) (lv' := [(2, .int x3), (5, .int (x3 &&& (x2 ^^^ (-1 : Int32)))), (0, .ref (ly_o y o0)), (1, .int x1), (3, .int x3), (4, .int x4)]) K dX1_isInRing_31 2 rfl (by decide) rfl ?_
        refine v_iconst (pc := 32) (v := 0) K dX1_isInRing_32 rfl ?_
        refine v_istore (pc := 33) (lv' := [(6, .int (0 : Int32)), (2, .int x3), (5, .int (x3 &&& (x2 ^^^ (-1 : Int32)))), (0, .ref (ly_o y o0)), (1, .int x1), (3, .int x3), (4, .int x4)]) K 6 dX1_isInRing_33 (by decide) rfl ?_
        refine v_sub [3, 4, 1, 5, 6, 2, 0] rfl ?_
        exact bX1_isInRing_35 l K hy hQ ih q_F ho0 hF
def fX1_isInRing (M : QM) (o0 : Nat) (x1 : Int32) : Option (Int32 × QM) := (q_b (fX1_waitedFor M o0 x1) fun r2 M3 => (fX1_isInRing_b11 q_F M3 o0 x1 (0 : Int32) r2 (0 : Int32)))
set_option maxRecDepth 100000 in
set_option maxHeartbeats 4000000 in
theorem bX1_isInRing_0 {x : Cx} {y : Ly} (l : Launch) (K : VK x l rmX1_isInRing y 7 cX1_isInRing RX1 wqX1_isInRing) (hy : y.2.2.2.2 = 0) {z : Int32 × QM} (hQ : VQ x y (some (.int z.1)) z.2 (some .boolean)) {M : QM} {o0 : Nat} {x1 : Int32} (ho0 : kls o0 = 1) (hF : fX1_isInRing M o0 x1 = some z) : V x y 7 M 0 [(0, .ref (ly_o y o0)), (1, .int x1)] [] := by
  unfold fX1_isInRing at hF
  refine v_iconst (pc := 0) (v := 0) K dX1_isInRing_0 rfl ?_
  refine v_istore_n (pc := 1) (lv' := [(2, .int (0 : Int32)), (0, .ref (ly_o y o0)), (1, .int x1)]) K dX1_isInRing_1 2 rfl (by decide) rfl ?_
  refine v_aload_n (pc := 2) K dX1_isInRing_2 1 rfl ?_
  refine v_iload_n (pc := 3) K dX1_isInRing_3 2 rfl ?_
  obtain ⟨r2, M3, hc1, hF⟩ := q_bE hF
  refine v_callV (pc := 4) (ci := 1) (As := [.int x1]) (rest := []) (st' := [.int r2]) (r := some (.int r2)) (M1 := M3) K (kX1_waitedFor l K.2.2.2.2.2.2.1 hy ho0 hc1) (jg_V jl_X1_97 jw_i_X1_waitedFor jw_s_X1_waitedFor jw_n_X1 jw_c_X1_waitedFor) rfl rfl rfl jd_X1_waitedFor ⟨Nat.le_of_ble_eq_true rfl, Nat.le_of_ble_eq_true rfl⟩ rfl rfl (Nat.le_of_ble_eq_true rfl) ho0 (okc_0 hy (by decide)) rfl dX1_isInRing_4 rfl ?_
  refine v_istore_n (pc := 7) (lv' := [(3, .int r2), (2, .int (0 : Int32)), (0, .ref (ly_o y o0)), (1, .int x1)]) K dX1_isInRing_7 3 rfl (by decide) rfl ?_
  refine v_iconst (pc := 8) (v := 0) K dX1_isInRing_8 rfl ?_
  refine v_istore (pc := 9) (lv' := [(4, .int (0 : Int32)), (3, .int r2), (2, .int (0 : Int32)), (0, .ref (ly_o y o0)), (1, .int x1)]) K 4 dX1_isInRing_9 (by decide) rfl ?_
  refine v_sub [3, 4, 2, 1, 0] rfl ?_
  exact bX1_isInRing_11 l K hy hQ q_F ho0 hF
set_option maxRecDepth 100000 in
set_option maxHeartbeats 4000000 in
theorem kX1_isInRing (l : Launch) {y : Ly} (hJ : ly_J y) (hy : y.2.2.2.2 = 0) {M M1 : QM} {r : Int32} {o0 : Nat} {x1 : Int32} (ho0 : kls o0 = 1) (hF : fX1_isInRing M o0 x1 = some (r, M1)) : Met l yX1_isInRing wqX1_isInRing rmX1_isInRing (q_P y [.ref (ly_o y o0), .int x1] M) (q_E y (some (.int r)) M1) 0 0 (ly_A y) :=
  q_met (by decide) rfl hJ rfl rfl rfl (fun x K hQ => bX1_isInRing_0 l K hy (z := (r, M1)) hQ ho0 hF)
-- ===== X1_copy (LTwoCards$Book;)V
theorem jd_X1_copy : yX1_copy.cls = RX1 ∧ yX1_copy.cls ≠ "java/lang/invoke/MethodHandle" ∧ yX1_copy.cls ≠ "java/lang/invoke/VarHandle" ∧ (parseMethodDescriptor yX1_copy.desc).map (fun d => d.parameters.length) = some 1 := by decide +kernel
abbrev wqX1_copy : List Cond := .code yX1_copy cX1_copy 3 none :: wsL_law
abbrev rmX1_copy : Room := { frames := 1, cells := 0, slots := 0, locals := 22 }
def fX1_copy_b92 : Nat → QM → Nat → Nat → Int32 → Option QM
  | 0, _, _, _, _ => none
  | q + 1, M, o0, o1, x2 => if (24 : Int32) ≤ x2 then some M else (if q_in x2 24 then (if q_in x2 24 then (q_bv (fX4_copy M (el o0 5 x2.toNatClampNeg) (el o1 5 x2.toNatClampNeg)) fun M23 => (fX1_copy_b92 q M23 o0 o1 (x2 + (1 : Int32)))) else none) else none)
set_option maxRecDepth 100000 in
set_option maxHeartbeats 4000000 in
theorem bX1_copy_92 {x : Cx} {y : Ly} (l : Launch) (K : VK x l rmX1_copy y 3 cX1_copy RX1 wqX1_copy) (hy : y.2.2.2.2 = 0) {z : QM} (hQ : VQ x y none z none) : ∀ (q : Nat) {M : QM} {o0 : Nat} {o1 : Nat} {x2 : Int32}, kls o0 = 1 → kls o1 = 1 →  fX1_copy_b92 q M o0 o1 x2 = some z → V x y 3 M 92 [(0, .ref (ly_o y o0)), (1, .ref (ly_o y o1)), (2, .int x2)] [] := by
  intro q
  induction q with
  | zero =>
    intro M o0 o1 x2 ho0 ho1 hF
    rw [fX1_copy_b92] at hF
    cases hF
  | succ q ih =>
    intro M o0 o1 x2 ho0 ho1 hF
    rw [fX1_copy_b92] at hF
    refine v_iload_n (pc := 92) K dX1_copy_92 2 rfl ?_
    refine v_bipush (pc := 93) (v := 24) K dX1_copy_93 rfl ?_
    refine v_icmp_ge (pc := 95) (tgt := 119) K dX1_copy_95 (by decide) hF (fun c24 hF => ?_) (fun c24 hF => ?_)
    · have hz := (Option.some.inj hF).symm
      subst hz
      exact v_vret (pc := 119) K hQ dX1_copy_119
    · refine v_aload_n (pc := 98) K dX1_copy_98 0 rfl ?_
      refine gX1_quarrels (pc := 99) K hy ho0 jn_X1 (List.mem_cons_of_mem _ jl_X1_29) dX1_copy_99 ?_
      refine v_iload_n (pc := 102) K dX1_copy_102 2 rfl ?_
      refine iX1_quarrels (pc := 103) K hy ho0 hF dX1_copy_103 (fun hi19 hF => ?_)
      refine v_aload_n (pc := 104) K dX1_copy_104 1 rfl ?_
      refine gX1_quarrels (pc := 105) K hy ho1 jn_X1 (List.mem_cons_of_mem _ jl_X1_29) dX1_copy_105 ?_
      refine v_iload_n (pc := 108) K dX1_copy_108 2 rfl ?_
      refine iX1_quarrels (pc := 109) K hy ho1 hF dX1_copy_109 (fun hi20 hF => ?_)
      obtain ⟨M23, hc21, hF⟩ := q_bvE hF
      refine v_callV (pc := 110) (ci := 4) (As := [.ref (ly_o y (el o1 5 x2.toNatClampNeg))]) (rest := []) (st' := []) (r := none) (M1 := M23) K (kX4_copy l K.2.2.2.2.2.2.1 hy (el_q ho0 hi19) (el_q ho1 hi20) hc21) (jg_V jl_X1_100 jw_i_X4_copy jw_s_X4_copy jw_n_X4 jw_c_X4_copy) rfl rfl rfl jd_X4_copy ⟨Nat.le_of_ble_eq_true rfl, Nat.le_of_ble_eq_true rfl⟩ rfl rfl (Nat.le_of_ble_eq_true rfl) (el_q ho0 hi19) (okc_0 hy (by decide)) rfl dX1_copy_110 rfl ?_
      refine v_iinc (pc := 113) (v1 := x2 + (1 : Int32)) (lv' := [(2, .int (x2 + (1 : Int32))), (0, .ref (ly_o y o0)), (1, .ref (ly_o y o1))]) K dX1_copy_113 2 rfl rfl (by decide) rfl ?_
      refine v_goto (pc := 116) (tgt := 92) K dX1_copy_116 (by decide) ?_
      refine v_sub [1, 2, 0] rfl ?_
      exact ih ho0 ho1 hF
def fX1_copy_b90 (M : QM) (o0 : Nat) (o1 : Nat) : Option QM := (fX1_copy_b92 q_F M o0 o1 (0 : Int32))
set_option maxRecDepth 100000 in
set_option maxHeartbeats 4000000 in
theorem bX1_copy_90 {x : Cx} {y : Ly} (l : Launch) (K : VK x l rmX1_copy y 3 cX1_copy RX1 wqX1_copy) (hy : y.2.2.2.2 = 0) {z : QM} (hQ : VQ x y none z none) {M : QM} {o0 : Nat} {o1 : Nat} (ho0 : kls o0 = 1) (ho1 : kls o1 = 1) (hF : fX1_copy_b90 M o0 o1 = some z) : V x y 3 M 90 [(0, .ref (ly_o y o0)), (1, .ref (ly_o y o1))] [] := by
  unfold fX1_copy_b90 at hF
  refine v_iconst (pc := 90) (v := 0) K dX1_copy_90 rfl ?_
  refine v_istore_n (pc := 91) (lv' := [(2, .int (0 : Int32)), (0, .ref (ly_o y o0)), (1, .ref (ly_o y o1))]) K dX1_copy_91 2 rfl (by decide) rfl ?_
  refine v_sub [1, 2, 0] rfl ?_
  exact bX1_copy_92 l K hy hQ q_F ho0 ho1 hF
def fX1_copy_b18 : Nat → QM → Nat → Nat → Int32 → Option QM
  | 0, _, _, _, _ => none
  | q + 1, M, o0, o1, x2 => if (12 : Int32) ≤ x2 then (fX1_copy_b90 M o0 o1) else (if q_in x2 12 then (if q_in x2 12 then (q_t (p_a M o0 0 x2.toNatClampNeg (q_a M o1 0 x2.toNatClampNeg)) fun M5 => (if q_in x2 12 then (if q_in x2 12 then (q_t (p_a M5 o0 1 x2.toNatClampNeg (q_a M5 o1 1 x2.toNatClampNeg)) fun M8 => (if q_in x2 12 then (if q_in x2 12 then (q_t (p_a M8 o0 2 x2.toNatClampNeg (q_a M8 o1 2 x2.toNatClampNeg)) fun M11 => (if q_in x2 12 then (if q_in x2 12 then (q_t (p_a M11 o0 3 x2.toNatClampNeg (q_a M11 o1 3 x2.toNatClampNeg)) fun M14 => (if q_in x2 12 then (if q_in x2 12 then (q_t (p_a M14 o0 4 x2.toNatClampNeg (q_a M14 o1 4 x2.toNatClampNeg)) fun M17 => (fX1_copy_b18 q M17 o0 o1 (x2 + (1 : Int32)))) else none) else none)) else none) else none)) else none) else none)) else none) else none)) else none) else none)
set_option maxRecDepth 100000 in
set_option maxHeartbeats 4000000 in
theorem bX1_copy_18 {x : Cx} {y : Ly} (l : Launch) (K : VK x l rmX1_copy y 3 cX1_copy RX1 wqX1_copy) (hy : y.2.2.2.2 = 0) {z : QM} (hQ : VQ x y none z none) : ∀ (q : Nat) {M : QM} {o0 : Nat} {o1 : Nat} {x2 : Int32}, kls o0 = 1 → kls o1 = 1 →  fX1_copy_b18 q M o0 o1 x2 = some z → V x y 3 M 18 [(0, .ref (ly_o y o0)), (1, .ref (ly_o y o1)), (2, .int x2)] [] := by
  intro q
  induction q with
  | zero =>
    intro M o0 o1 x2 ho0 ho1 hF
    rw [fX1_copy_b18] at hF
    cases hF
  | succ q ih =>
    intro M o0 o1 x2 ho0 ho1 hF
    rw [fX1_copy_b18] at hF
    refine v_iload_n (pc := 18) K dX1_copy_18 2 rfl ?_
    refine v_bipush (pc := 19) (v := 12) K dX1_copy_19 rfl ?_
    refine v_icmp_ge (pc := 21) (tgt := 90) K dX1_copy_21 (by decide) hF (fun c18 hF => ?_) (fun c18 hF => ?_)
    · refine v_sub [0, 1] rfl ?_
      exact bX1_copy_90 l K hy hQ ho0 ho1 hF
    · refine v_aload_n (pc := 24) K dX1_copy_24 0 rfl ?_
      refine gX1_ages (pc := 25) K hy ho0 jn_X1 (List.mem_cons_of_mem _ jl_X1_9) dX1_copy_25 ?_
      refine v_iload_n (pc := 28) K dX1_copy_28 2 rfl ?_
      refine v_aload_n (pc := 29) K dX1_copy_29 1 rfl ?_
      refine gX1_ages (pc := 30) K hy ho1 jn_X1 (List.mem_cons_of_mem _ jl_X1_9) dX1_copy_30 ?_
      refine v_iload_n (pc := 33) K dX1_copy_33 2 rfl ?_
      refine iX1_ages (pc := 34) K hy ho1 hF dX1_copy_34 (fun hi3 hF => ?_)
      refine uX1_ages (pc := 35) K hy ho0 hF dX1_copy_35 (fun hi4 hF => ?_)
      refine v_nmM hF (fun M5 hF => ?_)
      refine v_aload_n (pc := 36) K dX1_copy_36 0 rfl ?_
      refine gX1_ranks (pc := 37) K hy ho0 jn_X1 (List.mem_cons_of_mem _ jl_X1_15) dX1_copy_37 ?_
      refine v_iload_n (pc := 40) K dX1_copy_40 2 rfl ?_
      refine v_aload_n (pc := 41) K dX1_copy_41 1 rfl ?_
      refine gX1_ranks (pc := 42) K hy ho1 jn_X1 (List.mem_cons_of_mem _ jl_X1_15) dX1_copy_42 ?_
      refine v_iload_n (pc := 45) K dX1_copy_45 2 rfl ?_
      refine iX1_ranks (pc := 46) K hy ho1 hF dX1_copy_46 (fun hi6 hF => ?_)
      refine uX1_ranks (pc := 47) K hy ho0 hF dX1_copy_47 (fun hi7 hF => ?_)
      refine v_nmM hF (fun M8 hF => ?_)
      refine v_aload_n (pc := 48) K dX1_copy_48 0 rfl ?_
      refine gX1_houses (pc := 49) K hy ho0 jn_X1 (List.mem_cons_of_mem _ jl_X1_18) dX1_copy_49 ?_
      refine v_iload_n (pc := 52) K dX1_copy_52 2 rfl ?_
      refine v_aload_n (pc := 53) K dX1_copy_53 1 rfl ?_
      refine gX1_houses (pc := 54) K hy ho1 jn_X1 (List.mem_cons_of_mem _ jl_X1_18) dX1_copy_54 ?_
      refine v_iload_n (pc := 57) K dX1_copy_57 2 rfl ?_
      refine iX1_houses (pc := 58) K hy ho1 hF dX1_copy_58 (fun hi9 hF => ?_)
      refine uX1_houses (pc := 59) K hy ho0 hF dX1_copy_59 (fun hi10 hF => ?_)
      refine v_nmM hF (fun M11 hF => ?_)
      refine v_aload_n (pc := 60) K dX1_copy_60 0 rfl ?_
      refine gX1_kept (pc := 61) K hy ho0 jn_X1 (List.mem_cons_of_mem _ jl_X1_21) dX1_copy_61 ?_
      refine v_iload_n (pc := 64) K dX1_copy_64 2 rfl ?_
      refine v_aload_n (pc := 65) K dX1_copy_65 1 rfl ?_
      refine gX1_kept (pc := 66) K hy ho1 jn_X1 (List.mem_cons_of_mem _ jl_X1_21) dX1_copy_66 ?_
      refine v_iload_n (pc := 69) K dX1_copy_69 2 rfl ?_
      refine iX1_kept (pc := 70) K hy ho1 hF dX1_copy_70 (fun hi12 hF => ?_)
      refine uX1_kept (pc := 71) K hy ho0 hF dX1_copy_71 (fun hi13 hF => ?_)
      refine v_nmM hF (fun M14 hF => ?_)
      refine v_aload_n (pc := 72) K dX1_copy_72 0 rfl ?_
      refine gX1_owing (pc := 73) K hy ho0 jn_X1 (List.mem_cons_of_mem _ jl_X1_24) dX1_copy_73 ?_
      refine v_iload_n (pc := 76) K dX1_copy_76 2 rfl ?_
      refine v_aload_n (pc := 77) K dX1_copy_77 1 rfl ?_
      refine gX1_owing (pc := 78) K hy ho1 jn_X1 (List.mem_cons_of_mem _ jl_X1_24) dX1_copy_78 ?_
      refine v_iload_n (pc := 81) K dX1_copy_81 2 rfl ?_
      refine iX1_owing (pc := 82) K hy ho1 hF dX1_copy_82 (fun hi15 hF => ?_)
      refine uX1_owing (pc := 83) K hy ho0 hF dX1_copy_83 (fun hi16 hF => ?_)
      refine v_nmM hF (fun M17 hF => ?_)
      refine v_iinc (pc := 84) (v1 := x2 + (1 : Int32)) (lv' := [(2, .int (x2 + (1 : Int32))), (0, .ref (ly_o y o0)), (1, .ref (ly_o y o1))]) K dX1_copy_84 2 rfl rfl (by decide) rfl ?_
      refine v_goto (pc := 87) (tgt := 18) K dX1_copy_87 (by decide) ?_
      refine v_sub [1, 2, 0] rfl ?_
      exact ih ho0 ho1 hF
def fX1_copy (M : QM) (o0 : Nat) (o1 : Nat) : Option QM := (q_t (p_i M o0 6 (q_i M o1 6)) fun M1 => (q_t (p_i M1 o0 7 (q_i M1 o1 7)) fun M2 => (fX1_copy_b18 q_F M2 o0 o1 (0 : Int32))))
set_option maxRecDepth 100000 in
set_option maxHeartbeats 4000000 in
theorem bX1_copy_0 {x : Cx} {y : Ly} (l : Launch) (K : VK x l rmX1_copy y 3 cX1_copy RX1 wqX1_copy) (hy : y.2.2.2.2 = 0) {z : QM} (hQ : VQ x y none z none) {M : QM} {o0 : Nat} {o1 : Nat} (ho0 : kls o0 = 1) (ho1 : kls o1 = 1) (hF : fX1_copy M o0 o1 = some z) : V x y 3 M 0 [(0, .ref (ly_o y o0)), (1, .ref (ly_o y o1))] [] := by
  unfold fX1_copy at hF
  refine v_aload_n (pc := 0) K dX1_copy_0 0 rfl ?_
  refine v_aload_n (pc := 1) K dX1_copy_1 1 rfl ?_
  refine gX1_peopleCount (pc := 2) K hy ho1 jn_X1 (List.mem_cons_of_mem _ jl_X1_34) dX1_copy_2 ?_
  refine pX1_peopleCount (pc := 5) K hy ho0 jn_X1 (List.mem_cons_of_mem _ jl_X1_34) dX1_copy_5 ?_
  refine v_nmM hF (fun M1 hF => ?_)
  refine v_aload_n (pc := 8) K dX1_copy_8 0 rfl ?_
  refine v_aload_n (pc := 9) K dX1_copy_9 1 rfl ?_
  refine gX1_quarrelCount (pc := 10) K hy ho1 jn_X1 (List.mem_cons_of_mem _ jl_X1_42) dX1_copy_10 ?_
  refine pX1_quarrelCount (pc := 13) K hy ho0 jn_X1 (List.mem_cons_of_mem _ jl_X1_42) dX1_copy_13 ?_
  refine v_nmM hF (fun M2 hF => ?_)
  refine v_iconst (pc := 16) (v := 0) K dX1_copy_16 rfl ?_
  refine v_istore_n (pc := 17) (lv' := [(2, .int (0 : Int32)), (0, .ref (ly_o y o0)), (1, .ref (ly_o y o1))]) K dX1_copy_17 2 rfl (by decide) rfl ?_
  refine v_sub [1, 2, 0] rfl ?_
  exact bX1_copy_18 l K hy hQ q_F ho0 ho1 hF
set_option maxRecDepth 100000 in
set_option maxHeartbeats 4000000 in
theorem kX1_copy (l : Launch) {y : Ly} (hJ : ly_J y) (hy : y.2.2.2.2 = 0) {M M1 : QM} {o0 : Nat} {o1 : Nat} (ho0 : kls o0 = 1) (ho1 : kls o1 = 1) (hF : fX1_copy M o0 o1 = some M1) : Met l yX1_copy wqX1_copy rmX1_copy (q_P y [.ref (ly_o y o0), .ref (ly_o y o1)] M) (q_E y none M1) 0 0 (ly_A y) :=
  q_met (by decide) rfl hJ rfl rfl rfl (fun x K hQ => bX1_copy_0 l K hy (z := M1) hQ ho0 ho1 hF)
