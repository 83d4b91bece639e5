-- ===== X11_person (III)I
theorem jd_X11_person : yX11_person.cls = RX11 ∧ yX11_person.cls ≠ "java/lang/invoke/MethodHandle" ∧ yX11_person.cls ≠ "java/lang/invoke/VarHandle" ∧ (parseMethodDescriptor yX11_person.desc).map (fun d => d.parameters.length) = some 3 := by decide +kernel
abbrev wqX11_person : List Cond := .code yX11_person cX11_person 4 (some .int) :: wsL_law
abbrev rmX11_person : Room := { frames := 1, cells := 0, slots := 0, locals := 24 }
def fX11_person (M : QM) (x1 : Int32) (x2 : Int32) (x3 : Int32) : Option (Int32 × QM) := (q_b (fX11_isWithin M x1 (0 : Int32) (99 : Int32)) fun r2 M3 => if r2 = (0 : Int32) then some ((-1 : Int32), M3) else (q_b (fX11_isWithin M3 x2 (0 : Int32) (9 : Int32)) fun r5 M6 => if r5 = (0 : Int32) then some ((-1 : Int32), M6) else (q_b (fX11_isWithin M6 x3 (0 : Int32) (9 : Int32)) fun r8 M9 => if r8 ≠ (0 : Int32) then (q_b (fX1_addPerson M9 20 x1 x2 x3) fun r11 M12 => some (r11, M12)) else some ((-1 : Int32), M9))))
set_option maxRecDepth 100000 in
set_option maxHeartbeats 4000000 in
theorem bX11_person_0 {x : Cx} {y : Ly} (l : Launch) (K : VK x l rmX11_person y 4 cX11_person RX11 wqX11_person) (hy : y.2.2.2.2 = 0) {z : Int32 × QM} (hQ : VQ x y (some (.int z.1)) z.2 (some .int)) {M : QM} {x1 : Int32} {x2 : Int32} {x3 : Int32} (hF : fX11_person M x1 x2 x3 = some z) : V x y 4 M 0 [(0, .ref (ly_o y 0)), (1, .int x1), (2, .int x2), (3, .int x3)] [] := by
  unfold fX11_person at hF
  refine v_iload_n (pc := 0) K dX11_person_0 1 rfl ?_
  refine v_iconst (pc := 1) (v := 0) K dX11_person_1 rfl ?_
  refine v_bipush (pc := 2) (v := 99) K dX11_person_2 rfl ?_
  obtain ⟨r2, M3, hc1, hF⟩ := q_bE hF
  refine v_callS (pc := 4) (As := [.int x1, .int (0 : Int32), .int (99 : Int32)]) (rest := []) (st' := [.int r2]) (r := some (.int r2)) (M1 := M3) K (kX11_isWithin l K.2.2.2.2.2.2.1 hy hc1) (jg_S jl_X11_73 jw_t_X11_isWithin jw_n_X11 jw_c_X11_isWithin) rfl rfl rfl jd_X11_isWithin ⟨Nat.le_of_ble_eq_true rfl, Nat.le_of_ble_eq_true rfl⟩ rfl rfl (Nat.le_of_ble_eq_true rfl) dX11_person_4 rfl ?_
  refine v_if_eq (pc := 7) (tgt := 30) K dX11_person_7 (by decide) hF (fun c15 hF => ?_) (fun c15 hF => ?_)
  · refine v_iconst (pc := 30) (v := -1) K dX11_person_30 rfl ?_
    have hz := (Option.some.inj hF).symm
    subst hz
    exact v_iret (pc := 31) K hQ dX11_person_31
  · refine v_iload_n (pc := 10) K dX11_person_10 2 rfl ?_
    refine v_iconst (pc := 11) (v := 0) K dX11_person_11 rfl ?_
    refine v_bipush (pc := 12) (v := 9) K dX11_person_12 rfl ?_
    obtain ⟨r5, M6, hc4, hF⟩ := q_bE hF
    refine v_callS (pc := 14) (As := [.int x2, .int (0 : Int32), .int (9 : Int32)]) (rest := []) (st' := [.int r5]) (r := some (.int r5)) (M1 := M6) K (kX11_isWithin l K.2.2.2.2.2.2.1 hy hc4) (jg_S jl_X11_73 jw_t_X11_isWithin jw_n_X11 jw_c_X11_isWithin) rfl rfl rfl jd_X11_isWithin ⟨Nat.le_of_ble_eq_true rfl, Nat.le_of_ble_eq_true rfl⟩ rfl rfl (Nat.le_of_ble_eq_true rfl) dX11_person_14 rfl ?_
    refine v_if_eq (pc := 17) (tgt := 30) K dX11_person_17 (by decide) hF (fun c14 hF => ?_) (fun c14 hF => ?_)
    · refine v_iconst (pc := 30) (v := -1) K dX11_person_30 rfl ?_
      have hz := (Option.some.inj hF).symm
      subst hz
      exact v_iret (pc := 31) K hQ dX11_person_31
    · refine v_iload_n (pc := 20) K dX11_person_20 3 rfl ?_
      refine v_iconst (pc := 21) (v := 0) K dX11_person_21 rfl ?_
      refine v_bipush (pc := 22) (v := 9) K dX11_person_22 rfl ?_
      obtain ⟨r8, M9, hc7, hF⟩ := q_bE hF
      refine v_callS (pc := 24) (As := [.int x3, .int (0 : Int32), .int (9 : Int32)]) (rest := []) (st' := [.int r8]) (r := some (.int r8)) (M1 := M9) K (kX11_isWithin l K.2.2.2.2.2.2.1 hy hc7) (jg_S jl_X11_73 jw_t_X11_isWithin jw_n_X11 jw_c_X11_isWithin) rfl rfl rfl jd_X11_isWithin ⟨Nat.le_of_ble_eq_true rfl, Nat.le_of_ble_eq_true rfl⟩ rfl rfl (Nat.le_of_ble_eq_true rfl) dX11_person_24 rfl ?_
      refine v_if_ne (pc := 27) (tgt := 32) K dX11_person_27 (by decide) hF (fun c13 hF => ?_) (fun c13 hF => ?_)
      · refine v_aload_n (pc := 32) K dX11_person_32 0 rfl ?_
        refine gX11_book (pc := 33) K hy (by decide) jn_X11 (List.mem_cons_of_mem _ jl_X11_37) dX11_person_33 ?_
        refine v_iload_n (pc := 36) K dX11_person_36 1 rfl ?_
        refine v_iload_n (pc := 37) K dX11_person_37 2 rfl ?_
        refine v_iload_n (pc := 38) K dX11_person_38 3 rfl ?_
        obtain ⟨r11, M12, hc10, hF⟩ := q_bE hF
        refine v_callV (pc := 39) (ci := 1) (As := [.int x1, .int x2, .int x3]) (rest := []) (st' := [.int r11]) (r := some (.int r11)) (M1 := M12) K (kX1_addPerson l K.2.2.2.2.2.2.1 hy (by decide) hc10) (jg_V jl_X11_77 jw_i_X1_addPerson jw_s_X1_addPerson jw_n_X1 jw_c_X1_addPerson) rfl rfl rfl jd_X1_addPerson ⟨Nat.le_of_ble_eq_true rfl, Nat.le_of_ble_eq_true rfl⟩ rfl rfl (Nat.le_of_ble_eq_true rfl) (by decide) (okc_0 hy (by decide)) rfl dX11_person_39 rfl ?_
        have hz := (Option.some.inj hF).symm
        subst hz
        exact v_iret (pc := 42) K hQ dX11_person_42
      · refine v_iconst (pc := 30) (v := -1) K dX11_person_30 rfl ?_
        have hz := (Option.some.inj hF).symm
        subst hz
        exact v_iret (pc := 31) K hQ dX11_person_31
set_option maxRecDepth 100000 in
set_option maxHeartbeats 4000000 in
theorem kX11_person (l : Launch) {y : Ly} (hJ : ly_J y) (hy : y.2.2.2.2 = 0) {M M1 : QM} {r : Int32} {x1 : Int32} {x2 : Int32} {x3 : Int32} (hF : fX11_person M x1 x2 x3 = some (r, M1)) : Met l yX11_person wqX11_person rmX11_person (q_P y [.ref (ly_o y 0), .int x1, .int x2, .int x3] M) (q_E y (some (.int r)) M1) 0 0 (ly_A y) :=
  q_met (by decide) rfl hJ rfl rfl rfl (fun x K hQ => bX11_person_0 l K hy (z := (r, M1)) hQ  hF)
-- ===== X11_areTwo (II)Z
theorem jd_X11_areTwo : yX11_areTwo.cls = RX11 ∧ yX11_areTwo.cls ≠ "java/lang/invoke/MethodHandle" ∧ yX11_areTwo.cls ≠ "java/lang/invoke/VarHandle" ∧ (parseMethodDescriptor yX11_areTwo.desc).map (fun d => d.parameters.length) = some 2 := by decide +kernel
abbrev wqX11_areTwo : List Cond := .code yX11_areTwo cX11_areTwo 3 (some .boolean) :: wsL_law
abbrev rmX11_areTwo : Room := { frames := 1, cells := 0, slots := 0, locals := 21 }
def fX11_areTwo (M : QM) (x1 : Int32) (x2 : Int32) : Option (Int32 × QM) := if x1 = x2 then some ((0 : Int32), M) else (q_b (fX1_hasPerson M 20 x1) fun r2 M3 => if r2 = (0 : Int32) then some ((0 : Int32), M3) else (q_b (fX1_hasPerson M3 20 x2) fun r5 M6 => if r5 = (0 : Int32) then some ((0 : Int32), M6) else some ((1 : Int32), M6)))
set_option maxRecDepth 100000 in
set_option maxHeartbeats 4000000 in
theorem bX11_areTwo_0 {x : Cx} {y : Ly} (l : Launch) (K : VK x l rmX11_areTwo y 3 cX11_areTwo RX11 wqX11_areTwo) (hy : y.2.2.2.2 = 0) {z : Int32 × QM} (hQ : VQ x y (some (.int z.1)) z.2 (some .boolean)) {M : QM} {x1 : Int32} {x2 : Int32} (hF : fX11_areTwo M x1 x2 = some z) : V x y 3 M 0 [(0, .ref (ly_o y 0)), (1, .int x1), (2, .int x2)] [] := by
  unfold fX11_areTwo at hF
  refine v_iload_n (pc := 0) K dX11_areTwo_0 1 rfl ?_
  refine v_iload_n (pc := 1) K dX11_areTwo_1 2 rfl ?_
  refine v_icmp_eq (pc := 2) (tgt := 31) K dX11_areTwo_2 (by decide) hF (fun c9 hF => ?_) (fun c9 hF => ?_)
  · refine v_iconst (pc := 31) (v := 0) K dX11_areTwo_31 rfl ?_
    have hz := (Option.some.inj hF).symm
    subst hz
    exact v_zret (pc := 32) K hQ rfl dX11_areTwo_32
  · refine v_aload_n (pc := 5) K dX11_areTwo_5 0 rfl ?_
    refine gX11_book (pc := 6) K hy (by decide) jn_X11 (List.mem_cons_of_mem _ jl_X11_37) dX11_areTwo_6 ?_
    refine v_iload_n (pc := 9) K dX11_areTwo_9 1 rfl ?_
    obtain ⟨r2, M3, hc1, hF⟩ := q_bE hF
    refine v_callV (pc := 10) (ci := 1) (As := [.int x1]) (rest := []) (st' := [.int r2]) (r := some (.int r2)) (M1 := M3) K (kX1_hasPerson l K.2.2.2.2.2.2.1 hy (by decide) hc1) (jg_V jl_X11_107 jw_i_X1_hasPerson jw_s_X1_hasPerson jw_n_X1 jw_c_X1_hasPerson) rfl rfl rfl jd_X1_hasPerson ⟨Nat.le_of_ble_eq_true rfl, Nat.le_of_ble_eq_true rfl⟩ rfl rfl (Nat.le_of_ble_eq_true rfl) (by decide) (okc_0 hy (by decide)) rfl dX11_areTwo_10 rfl ?_
    refine v_if_eq (pc := 13) (tgt := 31) K dX11_areTwo_13 (by decide) hF (fun c8 hF => ?_) (fun c8 hF => ?_)
    · refine v_iconst (pc := 31) (v := 0) K dX11_areTwo_31 rfl ?_
      have hz := (Option.some.inj hF).symm
      subst hz
      exact v_zret (pc := 32) K hQ rfl dX11_areTwo_32
    · refine v_aload_n (pc := 16) K dX11_areTwo_16 0 rfl ?_
      refine gX11_book (pc := 17) K hy (by decide) jn_X11 (List.mem_cons_of_mem _ jl_X11_37) dX11_areTwo_17 ?_
      refine v_iload_n (pc := 20) K dX11_areTwo_20 2 rfl ?_
      obtain ⟨r5, M6, hc4, hF⟩ := q_bE hF
      refine v_callV (pc := 21) (ci := 1) (As := [.int x2]) (rest := []) (st' := [.int r5]) (r := some (.int r5)) (M1 := M6) K (kX1_hasPerson l K.2.2.2.2.2.2.1 hy (by decide) hc4) (jg_V jl_X11_107 jw_i_X1_hasPerson jw_s_X1_hasPerson jw_n_X1 jw_c_X1_hasPerson) rfl rfl rfl jd_X1_hasPerson ⟨Nat.le_of_ble_eq_true rfl, Nat.le_of_ble_eq_true rfl⟩ rfl rfl (Nat.le_of_ble_eq_true rfl) (by decide) (okc_0 hy (by decide)) rfl dX11_areTwo_21 rfl ?_
      refine v_if_eq (pc := 24) (tgt := 31) K dX11_areTwo_24 (by decide) hF (fun c7 hF => ?_) (fun c7 hF => ?_)
      · refine v_iconst (pc := 31) (v := 0) K dX11_areTwo_31 rfl ?_
        have hz := (Option.some.inj hF).symm
        subst hz
        exact v_zret (pc := 32) K hQ rfl dX11_areTwo_32
      · refine v_iconst (pc := 27) (v := 1) K dX11_areTwo_27 rfl ?_
        refine v_goto (pc := 28) (tgt := 32) K dX11_areTwo_28 (by decide) ?_
        have hz := (Option.some.inj hF).symm
        subst hz
        exact v_zret (pc := 32) K hQ rfl dX11_areTwo_32
set_option maxRecDepth 100000 in
set_option maxHeartbeats 4000000 in
theorem kX11_areTwo (l : Launch) {y : Ly} (hJ : ly_J y) (hy : y.2.2.2.2 = 0) {M M1 : QM} {r : Int32} {x1 : Int32} {x2 : Int32} (hF : fX11_areTwo M x1 x2 = some (r, M1)) : Met l yX11_areTwo wqX11_areTwo rmX11_areTwo (q_P y [.ref (ly_o y 0), .int x1, .int x2] M) (q_E y (some (.int r)) M1) 0 0 (ly_A y) :=
  q_met (by decide) rfl hJ rfl rfl rfl (fun x K hQ => bX11_areTwo_0 l K hy (z := (r, M1)) hQ  hF)
-- ===== X11_debt (IIZ)Z
theorem jd_X11_debt : yX11_debt.cls = RX11 ∧ yX11_debt.cls ≠ "java/lang/invoke/MethodHandle" ∧ yX11_debt.cls ≠ "java/lang/invoke/VarHandle" ∧ (parseMethodDescriptor yX11_debt.desc).map (fun d => d.parameters.length) = some 3 := by decide +kernel
abbrev wqX11_debt : List Cond := .code yX11_debt cX11_debt 4 (some .boolean) :: wsL_law
abbrev rmX11_debt : Room := { frames := 2, cells := 0, slots := 0, locals := 45 }
def fX11_debt (M : QM) (x1 : Int32) (x2 : Int32) (x3 : Int32) : Option (Int32 × QM) := (q_b (fX11_areTwo M x1 x2) fun r2 M3 => if r2 = (0 : Int32) then some ((0 : Int32), M3) else (q_b (fX1_isOwing M3 20 x1 x2) fun r5 M6 => if r5 ≠ x3 then (q_bv (fX1_setOwing M6 20 x1 x2 x3) fun M9 => some ((1 : Int32), M9)) else some ((0 : Int32), M6)))
set_option maxRecDepth 100000 in
set_option maxHeartbeats 4000000 in
theorem bX11_debt_0 {x : Cx} {y : Ly} (l : Launch) (K : VK x l rmX11_debt y 4 cX11_debt RX11 wqX11_debt) (hy : y.2.2.2.2 = 0) {z : Int32 × QM} (hQ : VQ x y (some (.int z.1)) z.2 (some .boolean)) {M : QM} {x1 : Int32} {x2 : Int32} {x3 : Int32} (hF : fX11_debt M x1 x2 x3 = some z) : V x y 4 M 0 [(0, .ref (ly_o y 0)), (1, .int x1), (2, .int x2), (3, .int x3)] [] := by
  unfold fX11_debt at hF
  refine v_aload_n (pc := 0) K dX11_debt_0 0 rfl ?_
  refine v_iload_n (pc := 1) K dX11_debt_1 1 rfl ?_
  refine v_iload_n (pc := 2) K dX11_debt_2 2 rfl ?_
  obtain ⟨r2, M3, hc1, hF⟩ := q_bE hF
  refine v_callV (pc := 3) (ci := 10) (As := [.int x1, .int x2]) (rest := []) (st' := [.int r2]) (r := some (.int r2)) (M1 := M3) K (kX11_areTwo l K.2.2.2.2.2.2.1 hy hc1) (jg_V jl_X11_81 jw_i_X11_areTwo jw_s_X11_areTwo jw_n_X11 jw_c_X11_areTwo) rfl rfl rfl jd_X11_areTwo ⟨Nat.le_of_ble_eq_true rfl, Nat.le_of_ble_eq_true rfl⟩ rfl rfl (Nat.le_of_ble_eq_true rfl) (by decide) (okc_0 hy (by decide)) rfl dX11_debt_3 rfl ?_
  refine v_if_eq (pc := 6) (tgt := 22) K dX11_debt_6 (by decide) hF (fun c11 hF => ?_) (fun c11 hF => ?_)
  · refine v_iconst (pc := 22) (v := 0) K dX11_debt_22 rfl ?_
    have hz := (Option.some.inj hF).symm
    subst hz
    exact v_zret (pc := 23) K hQ rfl dX11_debt_23
  · refine v_aload_n (pc := 9) K dX11_debt_9 0 rfl ?_
    refine gX11_book (pc := 10) K hy (by decide) jn_X11 (List.mem_cons_of_mem _ jl_X11_37) dX11_debt_10 ?_
    refine v_iload_n (pc := 13) K dX11_debt_13 1 rfl ?_
    refine v_iload_n (pc := 14) K dX11_debt_14 2 rfl ?_
    obtain ⟨r5, M6, hc4, hF⟩ := q_bE hF
    refine v_callV (pc := 15) (ci := 1) (As := [.int x1, .int x2]) (rest := []) (st' := [.int r5]) (r := some (.int r5)) (M1 := M6) K (kX1_isOwing l K.2.2.2.2.2.2.1 hy (by decide) hc4) (jg_V jl_X11_85 jw_i_X1_isOwing jw_s_X1_isOwing jw_n_X1 jw_c_X1_isOwing) rfl rfl rfl jd_X1_isOwing ⟨Nat.le_of_ble_eq_true rfl, Nat.le_of_ble_eq_true rfl⟩ rfl rfl (Nat.le_of_ble_eq_true rfl) (by decide) (okc_0 hy (by decide)) rfl dX11_debt_15 rfl ?_
    refine v_iload_n (pc := 18) K dX11_debt_18 3 rfl ?_
    refine v_icmp_ne (pc := 19) (tgt := 24) K dX11_debt_19 (by decide) hF (fun c10 hF => ?_) (fun c10 hF => ?_)
    · refine v_aload_n (pc := 24) K dX11_debt_24 0 rfl ?_
      refine gX11_book (pc := 25) K hy (by decide) jn_X11 (List.mem_cons_of_mem _ jl_X11_37) dX11_debt_25 ?_
      refine v_iload_n (pc := 28) K dX11_debt_28 1 rfl ?_
      refine v_iload_n (pc := 29) K dX11_debt_29 2 rfl ?_
      refine v_iload_n (pc := 30) K dX11_debt_30 3 rfl ?_
      obtain ⟨M9, hc7, hF⟩ := q_bvE hF
      refine v_callV (pc := 31) (ci := 1) (As := [.int x1, .int x2, .int x3]) (rest := []) (st' := []) (r := none) (M1 := M9) K (kX1_setOwing l K.2.2.2.2.2.2.1 hy (by decide) hc7) (jg_V jl_X11_88 jw_i_X1_setOwing jw_s_X1_setOwing jw_n_X1 jw_c_X1_setOwing) rfl rfl rfl jd_X1_setOwing ⟨Nat.le_of_ble_eq_true rfl, Nat.le_of_ble_eq_true rfl⟩ rfl rfl (Nat.le_of_ble_eq_true rfl) (by decide) (okc_0 hy (by decide)) rfl dX11_debt_31 rfl ?_
      refine v_iconst (pc := 34) (v := 1) K dX11_debt_34 rfl ?_
      have hz := (Option.some.inj hF).symm
      subst hz
      exact v_zret (pc := 35) K hQ rfl dX11_debt_35
    · refine v_iconst (pc := 22) (v := 0) K dX11_debt_22 rfl ?_
      have hz := (Option.some.inj hF).symm
      subst hz
      exact v_zret (pc := 23) K hQ rfl dX11_debt_23
set_option maxRecDepth 100000 in
set_option maxHeartbeats 4000000 in
theorem kX11_debt (l : Launch) {y : Ly} (hJ : ly_J y) (hy : y.2.2.2.2 = 0) {M M1 : QM} {r : Int32} {x1 : Int32} {x2 : Int32} {x3 : Int32} (hF : fX11_debt M x1 x2 x3 = some (r, M1)) : Met l yX11_debt wqX11_debt rmX11_debt (q_P y [.ref (ly_o y 0), .int x1, .int x2, .int x3] M) (q_E y (some (.int r)) M1) 0 0 (ly_A y) :=
  q_met (by decide) rfl hJ rfl rfl rfl (fun x K hQ => bX11_debt_0 l K hy (z := (r, M1)) hQ  hF)
-- ===== X11_feed (IIIII)I
theorem jd_X11_feed : yX11_feed.cls = RX11 ∧ yX11_feed.cls ≠ "java/lang/invoke/MethodHandle" ∧ yX11_feed.cls ≠ "java/lang/invoke/VarHandle" ∧ (parseMethodDescriptor yX11_feed.desc).map (fun d => d.parameters.length) = some 5 := by decide +kernel
abbrev wqX11_feed : List Cond := .code yX11_feed cX11_feed 6 (some .int) :: wsL_law
abbrev rmX11_feed : Room := { frames := 1, cells := 0, slots := 0, locals := 22 }
def fX11_feed (M : QM) (x1 : Int32) (x2 : Int32) (x3 : Int32) (x4 : Int32) (x5 : Int32) : Option (Int32 × QM) := if ((q_i M 1 1) + (20 : Int32)) ≤ (400 : Int32) then (q_bv (fX8_add M x1) fun M3 => (q_bv (fX8_add M3 x2) fun M6 => (q_bv (fX8_add M6 x3) fun M9 => (q_bv (fX8_add M9 x4) fun M12 => (q_bv (fX8_add M12 x5) fun M15 => some (q_i M15 1 1, M15)))))) else some ((-1 : Int32), M)
set_option maxRecDepth 100000 in
set_option maxHeartbeats 4000000 in
theorem bX11_feed_0 {x : Cx} {y : Ly} (l : Launch) (K : VK x l rmX11_feed y 6 cX11_feed RX11 wqX11_feed) (hy : y.2.2.2.2 = 0) {z : Int32 × QM} (hQ : VQ x y (some (.int z.1)) z.2 (some .int)) {M : QM} {x1 : Int32} {x2 : Int32} {x3 : Int32} {x4 : Int32} {x5 : Int32} (hF : fX11_feed M x1 x2 x3 x4 x5 = some z) : V x y 6 M 0 [(0, .ref (ly_o y 0)), (1, .int x1), (2, .int x2), (3, .int x3), (4, .int x4), (5, .int x5)] [] := by
  unfold fX11_feed at hF
  refine v_aload_n (pc := 0) K dX11_feed_0 0 rfl ?_
  refine gX11_tape (pc := 1) K hy (by decide) jn_X11 (List.mem_cons_of_mem _ jl_X11_12) dX11_feed_1 ?_
  refine gX8_length (pc := 4) K hy (by decide) jn_X8 (List.mem_cons_of_mem _ jl_X11_92) dX11_feed_4 ?_
  refine v_bipush (pc := 7) (v := 20) K dX11_feed_7 rfl ?_
  refine v_iadd (pc := 9) K dX11_feed_9 ?_
  refine v_sipush (pc := 10) (v := 400) K dX11_feed_10 rfl ?_
  refine v_icmp_le (pc := 13) (tgt := 18) K dX11_feed_13 (by decide) hF (fun c16 hF => ?_) (fun c16 hF => ?_)
  · refine v_aload_n (pc := 18) K dX11_feed_18 0 rfl ?_
    refine gX11_tape (pc := 19) K hy (by decide) jn_X11 (List.mem_cons_of_mem _ jl_X11_12) dX11_feed_19 ?_
    refine v_iload_n (pc := 22) K dX11_feed_22 1 rfl ?_
    obtain ⟨M3, hc1, hF⟩ := q_bvE hF
    refine v_callV (pc := 23) (ci := 7) (As := [.int x1]) (rest := []) (st' := []) (r := none) (M1 := M3) K (kX8_add l K.2.2.2.2.2.2.1 hy hc1) (jg_V jl_X11_96 jw_i_X8_add jw_s_X8_add jw_n_X8 jw_c_X8_add) rfl rfl rfl jd_X8_add ⟨Nat.le_of_ble_eq_true rfl, Nat.le_of_ble_eq_true rfl⟩ rfl rfl (Nat.le_of_ble_eq_true rfl) (by decide) (okc_0 hy (by decide)) rfl dX11_feed_23 rfl ?_
    refine v_aload_n (pc := 26) K dX11_feed_26 0 rfl ?_
    refine gX11_tape (pc := 27) K hy (by decide) jn_X11 (List.mem_cons_of_mem _ jl_X11_12) dX11_feed_27 ?_
    refine v_iload_n (pc := 30) K dX11_feed_30 2 rfl ?_
    obtain ⟨M6, hc4, hF⟩ := q_bvE hF
    refine v_callV (pc := 31) (ci := 7) (As := [.int x2]) (rest := []) (st' := []) (r := none) (M1 := M6) K (kX8_add l K.2.2.2.2.2.2.1 hy hc4) (jg_V jl_X11_96 jw_i_X8_add jw_s_X8_add jw_n_X8 jw_c_X8_add) rfl rfl rfl jd_X8_add ⟨Nat.le_of_ble_eq_true rfl, Nat.le_of_ble_eq_true rfl⟩ rfl rfl (Nat.le_of_ble_eq_true rfl) (by decide) (okc_0 hy (by decide)) rfl dX11_feed_31 rfl ?_
    refine v_aload_n (pc := 34) K dX11_feed_34 0 rfl ?_
    refine gX11_tape (pc := 35) K hy (by decide) jn_X11 (List.mem_cons_of_mem _ jl_X11_12) dX11_feed_35 ?_
    refine v_iload_n (pc := 38) K dX11_feed_38 3 rfl ?_
    obtain ⟨M9, hc7, hF⟩ := q_bvE hF
    refine v_callV (pc := 39) (ci := 7) (As := [.int x3]) (rest := []) (st' := []) (r := none) (M1 := M9) K (kX8_add l K.2.2.2.2.2.2.1 hy hc7) (jg_V jl_X11_96 jw_i_X8_add jw_s_X8_add jw_n_X8 jw_c_X8_add) rfl rfl rfl jd_X8_add ⟨Nat.le_of_ble_eq_true rfl, Nat.le_of_ble_eq_true rfl⟩ rfl rfl (Nat.le_of_ble_eq_true rfl) (by decide) (okc_0 hy (by decide)) rfl dX11_feed_39 rfl ?_
    refine v_aload_n (pc := 42) K dX11_feed_42 0 rfl ?_
    refine gX11_tape (pc := 43) K hy (by decide) jn_X11 (List.mem_cons_of_mem _ jl_X11_12) dX11_feed_43 ?_
    refine v_iload (pc := 46) K dX11_feed_46 4 rfl ?_
    obtain ⟨M12, hc10, hF⟩ := q_bvE hF
    refine v_callV (pc := 48) (ci := 7) (As := [.int x4]) (rest := []) (st' := []) (r := none) (M1 := M12) K (kX8_add l K.2.2.2.2.2.2.1 hy hc10) (jg_V jl_X11_96 jw_i_X8_add jw_s_X8_add jw_n_X8 jw_c_X8_add) rfl rfl rfl jd_X8_add ⟨Nat.le_of_ble_eq_true rfl, Nat.le_of_ble_eq_true rfl⟩ rfl rfl (Nat.le_of_ble_eq_true rfl) (by decide) (okc_0 hy (by decide)) rfl dX11_feed_48 rfl ?_
    refine v_aload_n (pc := 51) K dX11_feed_51 0 rfl ?_
    refine gX11_tape (pc := 52) K hy (by decide) jn_X11 (List.mem_cons_of_mem _ jl_X11_12) dX11_feed_52 ?_
    refine v_iload (pc := 55) K dX11_feed_55 5 rfl ?_
    obtain ⟨M15, hc13, hF⟩ := q_bvE hF
    refine v_callV (pc := 57) (ci := 7) (As := [.int x5]) (rest := []) (st' := []) (r := none) (M1 := M15) K (kX8_add l K.2.2.2.2.2.2.1 hy hc13) (jg_V jl_X11_96 jw_i_X8_add jw_s_X8_add jw_n_X8 jw_c_X8_add) rfl rfl rfl jd_X8_add ⟨Nat.le_of_ble_eq_true rfl, Nat.le_of_ble_eq_true rfl⟩ rfl rfl (Nat.le_of_ble_eq_true rfl) (by decide) (okc_0 hy (by decide)) rfl dX11_feed_57 rfl ?_
    refine v_aload_n (pc := 60) K dX11_feed_60 0 rfl ?_
    refine gX11_tape (pc := 61) K hy (by decide) jn_X11 (List.mem_cons_of_mem _ jl_X11_12) dX11_feed_61 ?_
    refine gX8_length (pc := 64) K hy (by decide) jn_X8 (List.mem_cons_of_mem _ jl_X11_92) dX11_feed_64 ?_
    have hz := (Option.some.inj hF).symm
    subst hz
    exact v_iret (pc := 67) K hQ dX11_feed_67
  · refine v_iconst (pc := 16) (v := -1) K dX11_feed_16 rfl ?_
    have hz := (Option.some.inj hF).symm
    subst hz
    exact v_iret (pc := 17) K hQ dX11_feed_17
set_option maxRecDepth 100000 in
set_option maxHeartbeats 4000000 in
theorem kX11_feed (l : Launch) {y : Ly} (hJ : ly_J y) (hy : y.2.2.2.2 = 0) {M M1 : QM} {r : Int32} {x1 : Int32} {x2 : Int32} {x3 : Int32} {x4 : Int32} {x5 : Int32} (hF : fX11_feed M x1 x2 x3 x4 x5 = some (r, M1)) : Met l yX11_feed wqX11_feed rmX11_feed (q_P y [.ref (ly_o y 0), .int x1, .int x2, .int x3, .int x4, .int x5] M) (q_E y (some (.int r)) M1) 0 0 (ly_A y) :=
  q_met (by decide) rfl hJ rfl rfl rfl (fun x K hQ => bX11_feed_0 l K hy (z := (r, M1)) hQ  hF)
-- ===== X11_end (I)I
theorem jd_X11_end : yX11_end.cls = RX11 ∧ yX11_end.cls ≠ "java/lang/invoke/MethodHandle" ∧ yX11_end.cls ≠ "java/lang/invoke/VarHandle" ∧ (parseMethodDescriptor yX11_end.desc).map (fun d => d.parameters.length) = some 1 := by decide +kernel
abbrev wqX11_end : List Cond := .code yX11_end cX11_end 2 (some .int) :: wsL_law
abbrev rmX11_end : Room := { frames := 1, cells := 0, slots := 0, locals := 22 }
def fX11_end (M : QM) (x1 : Int32) : Option (Int32 × QM) := (q_b (fX11_isWithin M x1 (0 : Int32) (q_i M 1 1)) fun r2 M3 => if r2 ≠ (0 : Int32) then (q_t (p_i M3 1 1 x1) fun M4 => some (x1, M4)) else some ((-1 : Int32), M3))
set_option maxRecDepth 100000 in
set_option maxHeartbeats 4000000 in
theorem bX11_end_0 {x : Cx} {y : Ly} (l : Launch) (K : VK x l rmX11_end y 2 cX11_end RX11 wqX11_end) (hy : y.2.2.2.2 = 0) {z : Int32 × QM} (hQ : VQ x y (some (.int z.1)) z.2 (some .int)) {M : QM} {x1 : Int32} (hF : fX11_end M x1 = some z) : V x y 2 M 0 [(0, .ref (ly_o y 0)), (1, .int x1)] [] := by
  unfold fX11_end at hF
  refine v_iload_n (pc := 0) K dX11_end_0 1 rfl ?_
  refine v_iconst (pc := 1) (v := 0) K dX11_end_1 rfl ?_
  refine v_aload_n (pc := 2) K dX11_end_2 0 rfl ?_
  refine gX11_tape (pc := 3) K hy (by decide) jn_X11 (List.mem_cons_of_mem _ jl_X11_12) dX11_end_3 ?_
  refine gX8_length (pc := 6) K hy (by decide) jn_X8 (List.mem_cons_of_mem _ jl_X11_92) dX11_end_6 ?_
  obtain ⟨r2, M3, hc1, hF⟩ := q_bE hF
  refine v_callS (pc := 9) (As := [.int x1, .int (0 : Int32), .int (q_i M 1 1)]) (rest := []) (st' := [.int r2]) (r := some (.int r2)) (M1 := M3) K (kX11_isWithin l K.2.2.2.2.2.2.1 hy hc1) (jg_S jl_X11_73 jw_t_X11_isWithin jw_n_X11 jw_c_X11_isWithin) rfl rfl rfl jd_X11_isWithin ⟨Nat.le_of_ble_eq_true rfl, Nat.le_of_ble_eq_true rfl⟩ rfl rfl (Nat.le_of_ble_eq_true rfl) dX11_end_9 rfl ?_
  refine v_if_ne (pc := 12) (tgt := 17) K dX11_end_12 (by decide) hF (fun c5 hF => ?_) (fun c5 hF => ?_)
  · refine v_aload_n (pc := 17) K dX11_end_17 0 rfl ?_
    refine gX11_tape (pc := 18) K hy (by decide) jn_X11 (List.mem_cons_of_mem _ jl_X11_12) dX11_end_18 ?_
    refine v_iload_n (pc := 21) K dX11_end_21 1 rfl ?_
    refine pX8_length (pc := 22) K hy (by decide) jn_X8 (List.mem_cons_of_mem _ jl_X11_92) dX11_end_22 ?_
    refine v_nmM hF (fun M4 hF => ?_)
    refine v_iload_n (pc := 25) K dX11_end_25 1 rfl ?_
    have hz := (Option.some.inj hF).symm
    subst hz
    exact v_iret (pc := 26) K hQ dX11_end_26
  · refine v_iconst (pc := 15) (v := -1) K dX11_end_15 rfl ?_
    have hz := (Option.some.inj hF).symm
    subst hz
    exact v_iret (pc := 16) K hQ dX11_end_16
set_option maxRecDepth 100000 in
set_option maxHeartbeats 4000000 in
theorem kX11_end (l : Launch) {y : Ly} (hJ : ly_J y) (hy : y.2.2.2.2 = 0) {M M1 : QM} {r : Int32} {x1 : Int32} (hF : fX11_end M x1 = some (r, M1)) : Met l yX11_end wqX11_end rmX11_end (q_P y [.ref (ly_o y 0), .int x1] M) (q_E y (some (.int r)) M1) 0 0 (ly_A y) :=
  q_met (by decide) rfl hJ rfl rfl rfl (fun x K hQ => bX11_end_0 l K hy (z := (r, M1)) hQ  hF)
-- ===== X11_code ()I
theorem jd_X11_code : yX11_code.cls = RX11 ∧ yX11_code.cls ≠ "java/lang/invoke/MethodHandle" ∧ yX11_code.cls ≠ "java/lang/invoke/VarHandle" ∧ (parseMethodDescriptor yX11_code.desc).map (fun d => d.parameters.length) = some 0 := by decide +kernel
abbrev wqX11_code : List Cond := .code yX11_code cX11_code 2 (some .int) :: wsL_law
abbrev rmX11_code : Room := { frames := 53, cells := 0, slots := 0, locals := 1255 }
def fX11_code (M : QM) : Option (Int32 × QM) := if (q_i M 0 10) < (6 : Int32) then (if q_in (q_i M 0 10) 6 then (q_b (fX5_read M (el 0 1 (q_i M 0 10).toNatClampNeg)) fun r3 M4 => (q_t (p_i M4 1 1 (0 : Int32)) fun M5 => if r3 = (0 : Int32) then (q_t (p_i M5 0 10 ((q_i M5 0 10) + (1 : Int32))) fun M6 => some ((q_i M6 0 10) - (1 : Int32), M6)) else some ((-2 : Int32) - r3, M5))) else none) else some ((-1 : Int32), M)
set_option maxRecDepth 100000 in
set_option maxHeartbeats 4000000 in
theorem bX11_code_0 {x : Cx} {y : Ly} (l : Launch) (K : VK x l rmX11_code y 2 cX11_code RX11 wqX11_code) (hy : y.2.2.2.2 = 0) {z : Int32 × QM} (hQ : VQ x y (some (.int z.1)) z.2 (some .int)) {M : QM} (hF : fX11_code M  = some z) : V x y 2 M 0 [(0, .ref (ly_o y 0))] [] := by
  unfold fX11_code at hF
  refine v_aload_n (pc := 0) K dX11_code_0 0 rfl ?_
  refine gX11_codeCount (pc := 1) K hy (by decide) jn_X11 (List.mem_cons_of_mem _ jl_X11_100) dX11_code_1 ?_
  refine v_bipush (pc := 4) (v := 6) K dX11_code_4 rfl ?_
  refine v_icmp_lt (pc := 6) (tgt := 11) K dX11_code_6 (by decide) hF (fun c8 hF => ?_) (fun c8 hF => ?_)
  · refine v_aload_n (pc := 11) K dX11_code_11 0 rfl ?_
    refine gX11_reader (pc := 12) K hy (by decide) jn_X11 (List.mem_cons_of_mem _ jl_X11_30) dX11_code_12 ?_
    refine v_aload_n (pc := 15) K dX11_code_15 0 rfl ?_
    refine gX11_tape (pc := 16) K hy (by decide) jn_X11 (List.mem_cons_of_mem _ jl_X11_12) dX11_code_16 ?_
    refine v_aload_n (pc := 19) K dX11_code_19 0 rfl ?_
    refine gX11_codes (pc := 20) K hy (by decide) jn_X11 (List.mem_cons_of_mem _ jl_X11_18) dX11_code_20 ?_
    refine v_aload_n (pc := 23) K dX11_code_23 0 rfl ?_
    refine gX11_codeCount (pc := 24) K hy (by decide) jn_X11 (List.mem_cons_of_mem _ jl_X11_100) dX11_code_24 ?_
    refine iX11_codes (pc := 27) K hy (by decide) hF dX11_code_27 (fun hi1 hF => ?_)
    obtain ⟨r3, M4, hc2, hF⟩ := q_bE hF
    refine v_callV (pc := 28) (ci := 5) (As := [.ref (ly_o y 1), .ref (ly_o y (el 0 1 (q_i M 0 10).toNatClampNeg))]) (rest := []) (st' := [.int r3]) (r := some (.int r3)) (M1 := M4) K (kX5_read l K.2.2.2.2.2.2.1 hy (el_c  hi1) hc2) (jg_V jl_X11_103 jw_i_X5_read jw_s_X5_read jw_n_X5 jw_c_X5_read) rfl rfl rfl jd_X5_read ⟨Nat.le_of_ble_eq_true rfl, Nat.le_of_ble_eq_true rfl⟩ rfl rfl (Nat.le_of_ble_eq_true rfl) (by decide) (okc_0 hy (by decide)) rfl dX11_code_28 rfl ?_
    refine v_istore_n (pc := 31) (lv' := [(1, .int r3), (0, .ref (ly_o y 0))]) K dX11_code_31 1 rfl (by decide) rfl ?_
    refine v_aload_n (pc := 32) K dX11_code_32 1 rfl ?_
    refine gX11_tape (pc := 33) K hy (by decide) jn_X11 (List.mem_cons_of_mem _ jl_X11_12) dX11_code_33 ?_
    refine v_iconst (pc := 36) (v := 0) K dX11_code_36 rfl ?_
    refine pX8_length (pc := 37) K hy (by decide) jn_X8 (List.mem_cons_of_mem _ jl_X11_92) dX11_code_37 ?_
    refine v_nmM hF (fun M5 hF => ?_)
    refine v_iload_n (pc := 40) K dX11_code_40 0 rfl ?_
    refine v_if_eq (pc := 41) (tgt := 49) K dX11_code_41 (by decide) hF (fun c7 hF => ?_) (fun c7 hF => ?_)
    · refine v_aload_n (pc := 49) K dX11_code_49 1 rfl ?_
      refine v_dup (pc := 50) K dX11_code_50 rfl ?_
      refine gX11_codeCount (pc := 51) K hy (by decide) jn_X11 (List.mem_cons_of_mem _ jl_X11_100) dX11_code_51 ?_
      refine v_iconst (pc := 54) (v := 1) K dX11_code_54 rfl ?_
      refine v_iadd (pc := 55) K dX11_code_55 ?_
      refine pX11_codeCount (pc := 56) K hy (by decide) jn_X11 (List.mem_cons_of_mem _ jl_X11_100) dX11_code_56 ?_
      refine v_nmM hF (fun M6 hF => ?_)
      refine v_aload_n (pc := 59) K dX11_code_59 1 rfl ?_
      refine gX11_codeCount (pc := 60) K hy (by decide) jn_X11 (List.mem_cons_of_mem _ jl_X11_100) dX11_code_60 ?_
      refine v_iconst (pc := 63) (v := 1) K dX11_code_63 rfl ?_
      refine v_isub (pc := 64) K dX11_code_64 ?_
      have hz := (Option.some.inj hF).symm
      subst hz
      exact v_iret (pc := 65) K hQ dX11_code_65
    · refine v_bipush (pc := 44) (v := -2) K dX11_code_44 rfl ?_
      refine v_iload_n (pc := 46) K dX11_code_46 0 rfl ?_
      refine v_isub (pc := 47) K dX11_code_47 ?_
      have hz := (Option.some.inj hF).symm
      subst hz
      exact v_iret (pc := 48) K hQ dX11_code_48
  · refine v_iconst (pc := 9) (v := -1) K dX11_code_9 rfl ?_
    have hz := (Option.some.inj hF).symm
    subst hz
    exact v_iret (pc := 10) K hQ dX11_code_10
set_option maxRecDepth 100000 in
set_option maxHeartbeats 4000000 in
theorem kX11_code (l : Launch) {y : Ly} (hJ : ly_J y) (hy : y.2.2.2.2 = 0) {M M1 : QM} {r : Int32} (hF : fX11_code M  = some (r, M1)) : Met l yX11_code wqX11_code rmX11_code (q_P y [.ref (ly_o y 0)] M) (q_E y (some (.int r)) M1) 0 0 (ly_A y) :=
  q_met (by decide) rfl hJ rfl rfl rfl (fun x K hQ => bX11_code_0 l K hy (z := (r, M1)) hQ  hF)
-- ===== X11_hasCode (I)Z
theorem jd_X11_hasCode : yX11_hasCode.cls = RX11 ∧ yX11_hasCode.cls ≠ "java/lang/invoke/MethodHandle" ∧ yX11_hasCode.cls ≠ "java/lang/invoke/VarHandle" ∧ (parseMethodDescriptor yX11_hasCode.desc).map (fun d => d.parameters.length) = some 1 := by decide +kernel
abbrev wqX11_hasCode : List Cond := .code yX11_hasCode cX11_hasCode 2 (some .boolean) :: wsL_law
abbrev rmX11_hasCode : Room := { frames := 0, cells := 0, slots := 0, locals := 0 }
def fX11_hasCode (M : QM) (x1 : Int32) : Option (Int32 × QM) := if x1 < (0 : Int32) then some ((0 : Int32), M) else if (q_i M 0 10) ≤ x1 then some ((0 : Int32), M) else some ((1 : Int32), M)
set_option maxRecDepth 100000 in
set_option maxHeartbeats 4000000 in
theorem bX11_hasCode_0 {x : Cx} {y : Ly} (l : Launch) (K : VK x l rmX11_hasCode y 2 cX11_hasCode RX11 wqX11_hasCode) (hy : y.2.2.2.2 = 0) {z : Int32 × QM} (hQ : VQ x y (some (.int z.1)) z.2 (some .boolean)) {M : QM} {x1 : Int32} (hF : fX11_hasCode M x1 = some z) : V x y 2 M 0 [(0, .ref (ly_o y 0)), (1, .int x1)] [] := by
  unfold fX11_hasCode at hF
  refine v_iload_n (pc := 0) K dX11_hasCode_0 1 rfl ?_
  refine v_if_lt (pc := 1) (tgt := 16) K dX11_hasCode_1 (by decide) hF (fun c2 hF => ?_) (fun c2 hF => ?_)
  · refine v_iconst (pc := 16) (v := 0) K dX11_hasCode_16 rfl ?_
    have hz := (Option.some.inj hF).symm
    subst hz
    exact v_zret (pc := 17) K hQ rfl dX11_hasCode_17
  · refine v_iload_n (pc := 4) K dX11_hasCode_4 1 rfl ?_
    refine v_aload_n (pc := 5) K dX11_hasCode_5 0 rfl ?_
    refine gX11_codeCount (pc := 6) K hy (by decide) jn_X11 (List.mem_cons_of_mem _ jl_X11_100) dX11_hasCode_6 ?_
    refine v_icmp_ge (pc := 9) (tgt := 16) K dX11_hasCode_9 (by decide) hF (fun c1 hF => ?_) (fun c1 hF => ?_)
    · refine v_iconst (pc := 16) (v := 0) K dX11_hasCode_16 rfl ?_
      have hz := (Option.some.inj hF).symm
      subst hz
      exact v_zret (pc := 17) K hQ rfl dX11_hasCode_17
    · refine v_iconst (pc := 12) (v := 1) K dX11_hasCode_12 rfl ?_
      refine v_goto (pc := 13) (tgt := 17) K dX11_hasCode_13 (by decide) ?_
      have hz := (Option.some.inj hF).symm
      subst hz
      exact v_zret (pc := 17) K hQ rfl dX11_hasCode_17
set_option maxRecDepth 100000 in
set_option maxHeartbeats 4000000 in
theorem kX11_hasCode (l : Launch) {y : Ly} (hJ : ly_J y) (hy : y.2.2.2.2 = 0) {M M1 : QM} {r : Int32} {x1 : Int32} (hF : fX11_hasCode M x1 = some (r, M1)) : Met l yX11_hasCode wqX11_hasCode rmX11_hasCode (q_P y [.ref (ly_o y 0), .int x1] M) (q_E y (some (.int r)) M1) 0 0 (ly_A y) :=
  q_met (by decide) rfl hJ rfl rfl rfl (fun x K hQ => bX11_hasCode_0 l K hy (z := (r, M1)) hQ  hF)
-- ===== X11_keeps (II)Z
theorem jd_X11_keeps : yX11_keeps.cls = RX11 ∧ yX11_keeps.cls ≠ "java/lang/invoke/MethodHandle" ∧ yX11_keeps.cls ≠ "java/lang/invoke/VarHandle" ∧ (parseMethodDescriptor yX11_keeps.desc).map (fun d => d.parameters.length) = some 2 := by decide +kernel
abbrev wqX11_keeps : List Cond := .code yX11_keeps cX11_keeps 3 (some .boolean) :: wsL_law
abbrev rmX11_keeps : Room := { frames := 2, cells := 0, slots := 0, locals := 43 }
def fX11_keeps_b26 (M : QM) (x1 : Int32) (x2 : Int32) : Option (Int32 × QM) := (q_bv (fX1_setCode M 20 x1 x2) fun M12 => some ((1 : Int32), M12))
set_option maxRecDepth 100000 in
set_option maxHeartbeats 4000000 in
theorem bX11_keeps_26 {x : Cx} {y : Ly} (l : Launch) (K : VK x l rmX11_keeps y 3 cX11_keeps RX11 wqX11_keeps) (hy : y.2.2.2.2 = 0) {z : Int32 × QM} (hQ : VQ x y (some (.int z.1)) z.2 (some .boolean)) {M : QM} {x1 : Int32} {x2 : Int32} (hF : fX11_keeps_b26 M x1 x2 = some z) : V x y 3 M 26 [(0, .ref (ly_o y 0)), (1, .int x1), (2, .int x2)] [] := by
  unfold fX11_keeps_b26 at hF
  refine v_aload_n (pc := 26) K dX11_keeps_26 0 rfl ?_
  refine gX11_book (pc := 27) K hy (by decide) jn_X11 (List.mem_cons_of_mem _ jl_X11_37) dX11_keeps_27 ?_
  refine v_iload_n (pc := 30) K dX11_keeps_30 1 rfl ?_
  refine v_iload_n (pc := 31) K dX11_keeps_31 2 rfl ?_
  obtain ⟨M12, hc10, hF⟩ := q_bvE hF
  refine v_callV (pc := 32) (ci := 1) (As := [.int x1, .int x2]) (rest := []) (st' := []) (r := none) (M1 := M12) K (kX1_setCode l K.2.2.2.2.2.2.1 hy (by decide) hc10) (jg_V jl_X11_114 jw_i_X1_setCode jw_s_X1_setCode jw_n_X1 jw_c_X1_setCode) rfl rfl rfl jd_X1_setCode ⟨Nat.le_of_ble_eq_true rfl, Nat.le_of_ble_eq_true rfl⟩ rfl rfl (Nat.le_of_ble_eq_true rfl) (by decide) (okc_0 hy (by decide)) rfl dX11_keeps_32 rfl ?_
  refine v_iconst (pc := 35) (v := 1) K dX11_keeps_35 rfl ?_
  have hz := (Option.some.inj hF).symm
  subst hz
  exact v_zret (pc := 36) K hQ rfl dX11_keeps_36
def fX11_keeps (M : QM) (x1 : Int32) (x2 : Int32) : Option (Int32 × QM) := (q_b (fX1_hasPerson M 20 x1) fun r2 M3 => if r2 = (0 : Int32) then some ((0 : Int32), M3) else if x2 = (-1 : Int32) then (fX11_keeps_b26 M3 x1 x2) else (q_b (fX11_hasCode M3 x2) fun r5 M6 => if r5 ≠ (0 : Int32) then (fX11_keeps_b26 M6 x1 x2) else some ((0 : Int32), M6)))
set_option maxRecDepth 100000 in
set_option maxHeartbeats 4000000 in
theorem bX11_keeps_0 {x : Cx} {y : Ly} (l : Launch) (K : VK x l rmX11_keeps y 3 cX11_keeps RX11 wqX11_keeps) (hy : y.2.2.2.2 = 0) {z : Int32 × QM} (hQ : VQ x y (some (.int z.1)) z.2 (some .boolean)) {M : QM} {x1 : Int32} {x2 : Int32} (hF : fX11_keeps M x1 x2 = some z) : V x y 3 M 0 [(0, .ref (ly_o y 0)), (1, .int x1), (2, .int x2)] [] := by
  unfold fX11_keeps at hF
  refine v_aload_n (pc := 0) K dX11_keeps_0 0 rfl ?_
  refine gX11_book (pc := 1) K hy (by decide) jn_X11 (List.mem_cons_of_mem _ jl_X11_37) dX11_keeps_1 ?_
  refine v_iload_n (pc := 4) K dX11_keeps_4 1 rfl ?_
  obtain ⟨r2, M3, hc1, hF⟩ := q_bE hF
  refine v_callV (pc := 5) (ci := 1) (As := [.int x1]) (rest := []) (st' := [.int r2]) (r := some (.int r2)) (M1 := M3) K (kX1_hasPerson l K.2.2.2.2.2.2.1 hy (by decide) hc1) (jg_V jl_X11_107 jw_i_X1_hasPerson jw_s_X1_hasPerson jw_n_X1 jw_c_X1_hasPerson) rfl rfl rfl jd_X1_hasPerson ⟨Nat.le_of_ble_eq_true rfl, Nat.le_of_ble_eq_true rfl⟩ rfl rfl (Nat.le_of_ble_eq_true rfl) (by decide) (okc_0 hy (by decide)) rfl dX11_keeps_5 rfl ?_
  refine v_if_eq (pc := 8) (tgt := 24) K dX11_keeps_8 (by decide) hF (fun c9 hF => ?_) (fun c9 hF => ?_)
  · refine v_iconst (pc := 24) (v := 0) K dX11_keeps_24 rfl ?_
    have hz := (Option.some.inj hF).symm
    subst hz
    exact v_zret (pc := 25) K hQ rfl dX11_keeps_25
  · refine v_iload_n (pc := 11) K dX11_keeps_11 2 rfl ?_
    refine v_iconst (pc := 12) (v := -1) K dX11_keeps_12 rfl ?_
    refine v_icmp_eq (pc := 13) (tgt := 26) K dX11_keeps_13 (by decide) hF (fun c8 hF => ?_) (fun c8 hF => ?_)
    · exact bX11_keeps_26 l K hy hQ hF
    · refine v_aload_n (pc := 16) K dX11_keeps_16 0 rfl ?_
      refine v_iload_n (pc := 17) K dX11_keeps_17 2 rfl ?_
      obtain ⟨r5, M6, hc4, hF⟩ := q_bE hF
      refine v_callV (pc := 18) (ci := 10) (As := [.int x2]) (rest := []) (st' := [.int r5]) (r := some (.int r5)) (M1 := M6) K (kX11_hasCode l K.2.2.2.2.2.2.1 hy hc4) (jg_V jl_X11_111 jw_i_X11_hasCode jw_s_X11_hasCode jw_n_X11 jw_c_X11_hasCode) rfl rfl rfl jd_X11_hasCode ⟨Nat.le_of_ble_eq_true rfl, Nat.le_of_ble_eq_true rfl⟩ rfl rfl (Nat.le_of_ble_eq_true rfl) (by decide) (okc_0 hy (by decide)) rfl dX11_keeps_18 rfl ?_
      refine v_if_ne (pc := 21) (tgt := 26) K dX11_keeps_21 (by decide) hF (fun c7 hF => ?_) (fun c7 hF => ?_)
      · exact bX11_keeps_26 l K hy hQ hF
      · refine v_iconst (pc := 24) (v := 0) K dX11_keeps_24 rfl ?_
        have hz := (Option.some.inj hF).symm
        subst hz
        exact v_zret (pc := 25) K hQ rfl dX11_keeps_25
set_option maxRecDepth 100000 in
set_option maxHeartbeats 4000000 in
theorem kX11_keeps (l : Launch) {y : Ly} (hJ : ly_J y) (hy : y.2.2.2.2 = 0) {M M1 : QM} {r : Int32} {x1 : Int32} {x2 : Int32} (hF : fX11_keeps M x1 x2 = some (r, M1)) : Met l yX11_keeps wqX11_keeps rmX11_keeps (q_P y [.ref (ly_o y 0), .int x1, .int x2] M) (q_E y (some (.int r)) M1) 0 0 (ly_A y) :=
  q_met (by decide) rfl hJ rfl rfl rfl (fun x K hQ => bX11_keeps_0 l K hy (z := (r, M1)) hQ  hF)
-- ===== X11_codeAt (I)LTwoCards$Code;
theorem jd_X11_codeAt : yX11_codeAt.cls = RX11 ∧ yX11_codeAt.cls ≠ "java/lang/invoke/MethodHandle" ∧ yX11_codeAt.cls ≠ "java/lang/invoke/VarHandle" ∧ (parseMethodDescriptor yX11_codeAt.desc).map (fun d => d.parameters.length) = some 1 := by decide +kernel
abbrev wqX11_codeAt : List Cond := .code yX11_codeAt cX11_codeAt 2 (some (.object "TwoCards$Code")) :: wsL_law
abbrev rmX11_codeAt : Room := { frames := 0, cells := 0, slots := 0, locals := 0 }
def fX11_codeAt_b19 (M : QM) : Option (Nat × QM) := some (16, M)
set_option maxRecDepth 100000 in
set_option maxHeartbeats 4000000 in
theorem bX11_codeAt_19 {x : Cx} {y : Ly} (l : Launch) (K : VK x l rmX11_codeAt y 2 cX11_codeAt RX11 wqX11_codeAt) (hy : y.2.2.2.2 = 0) {z : Nat × QM} (hQ : VQ x y (some (.ref (ly_o y z.1))) z.2 (some (.object "TwoCards$Code"))) {M : QM} (hF : fX11_codeAt_b19 M  = some z) : V x y 2 M 19 [(0, .ref (ly_o y 0))] [] := by
  unfold fX11_codeAt_b19 at hF
  refine v_aload_n (pc := 19) K dX11_codeAt_19 0 rfl ?_
  refine gX11_blank (pc := 20) K hy (by decide) jn_X11 (List.mem_cons_of_mem _ jl_X11_23) dX11_codeAt_20 ?_
  have hz := (Option.some.inj hF).symm
  subst hz
  exact v_aret (pc := 23) K hQ (Or.inl ⟨_, rfl⟩) dX11_codeAt_23
def fX11_codeAt (M : QM) (x1 : Int32) : Option (Nat × QM) := if x1 < (0 : Int32) then (fX11_codeAt_b19 M) else if (6 : Int32) ≤ x1 then (fX11_codeAt_b19 M) else (if q_in x1 6 then some (el 0 1 x1.toNatClampNeg, M) else none)
set_option maxRecDepth 100000 in
set_option maxHeartbeats 4000000 in
theorem bX11_codeAt_0 {x : Cx} {y : Ly} (l : Launch) (K : VK x l rmX11_codeAt y 2 cX11_codeAt RX11 wqX11_codeAt) (hy : y.2.2.2.2 = 0) {z : Nat × QM} (hQ : VQ x y (some (.ref (ly_o y z.1))) z.2 (some (.object "TwoCards$Code"))) {M : QM} {x1 : Int32} (hF : fX11_codeAt M x1 = some z) : V x y 2 M 0 [(0, .ref (ly_o y 0)), (1, .int x1)] [] := by
  unfold fX11_codeAt at hF
  refine v_iload_n (pc := 0) K dX11_codeAt_0 1 rfl ?_
  refine v_if_lt (pc := 1) (tgt := 19) K dX11_codeAt_1 (by decide) hF (fun c3 hF => ?_) (fun c3 hF => ?_)
  · refine v_sub [0] rfl ?_
    exact bX11_codeAt_19 l K hy hQ hF
  · refine v_iload_n (pc := 4) K dX11_codeAt_4 1 rfl ?_
    refine v_bipush (pc := 5) (v := 6) K dX11_codeAt_5 rfl ?_
    refine v_icmp_ge (pc := 7) (tgt := 19) K dX11_codeAt_7 (by decide) hF (fun c2 hF => ?_) (fun c2 hF => ?_)
    · refine v_sub [0] rfl ?_
      exact bX11_codeAt_19 l K hy hQ hF
    · refine v_aload_n (pc := 10) K dX11_codeAt_10 0 rfl ?_
      refine gX11_codes (pc := 11) K hy (by decide) jn_X11 (List.mem_cons_of_mem _ jl_X11_18) dX11_codeAt_11 ?_
      refine v_iload_n (pc := 14) K dX11_codeAt_14 1 rfl ?_
      refine iX11_codes (pc := 15) K hy (by decide) hF dX11_codeAt_15 (fun hi1 hF => ?_)
      refine v_goto (pc := 16) (tgt := 23) K dX11_codeAt_16 (by decide) ?_
      have hz := (Option.some.inj hF).symm
      subst hz
      exact v_aret (pc := 23) K hQ (Or.inl ⟨_, rfl⟩) dX11_codeAt_23
set_option maxRecDepth 100000 in
set_option maxHeartbeats 4000000 in
theorem kX11_codeAt (l : Launch) {y : Ly} (hJ : ly_J y) (hy : y.2.2.2.2 = 0) {M M1 : QM} {r : Nat} {x1 : Int32} (hF : fX11_codeAt M x1 = some (r, M1)) : Met l yX11_codeAt wqX11_codeAt rmX11_codeAt (q_P y [.ref (ly_o y 0), .int x1] M) (q_E y (some (.ref (ly_o y r))) M1) 0 0 (ly_A y) :=
  q_met (by decide) rfl hJ rfl rfl rfl (fun x K hQ => bX11_codeAt_0 l K hy (z := (r, M1)) hQ  hF)
-- ===== X11_told (II)I
theorem jd_X11_told : yX11_told.cls = RX11 ∧ yX11_told.cls ≠ "java/lang/invoke/MethodHandle" ∧ yX11_told.cls ≠ "java/lang/invoke/VarHandle" ∧ (parseMethodDescriptor yX11_told.desc).map (fun d => d.parameters.length) = some 2 := by decide +kernel
abbrev wqX11_told : List Cond := .code yX11_told cX11_told 4 (some .int) :: wsL_law
abbrev rmX11_told : Room := { frames := 1, cells := 0, slots := 0, locals := 21 }
def fX11_told (M : QM) (x1 : Int32) (x2 : Int32) : Option (Int32 × QM) := (q_b (fX11_hasCode M x1) fun r2 M3 => if r2 ≠ (0 : Int32) then (q_b (fX11_codeAt M3 x1) fun r5 M6 => (if kls r5 = 2 then if x2 = (0 : Int32) then some (q_i M6 r5 9, M6) else if x2 = (1 : Int32) then some (q_i M6 r5 10, M6) else if x2 = (2 : Int32) then some (q_i M6 r5 11, M6) else if x2 = (3 : Int32) then some (q_i M6 r5 8, M6) else some ((-1 : Int32), M6) else none)) else some ((-1 : Int32), M3))
set_option maxRecDepth 100000 in
set_option maxHeartbeats 4000000 in
theorem bX11_told_0 {x : Cx} {y : Ly} (l : Launch) (K : VK x l rmX11_told y 4 cX11_told RX11 wqX11_told) (hy : y.2.2.2.2 = 0) {z : Int32 × QM} (hQ : VQ x y (some (.int z.1)) z.2 (some .int)) {M : QM} {x1 : Int32} {x2 : Int32} (hF : fX11_told M x1 x2 = some z) : V x y 4 M 0 [(0, .ref (ly_o y 0)), (1, .int x1), (2, .int x2)] [] := by
  unfold fX11_told at hF
  refine v_aload_n (pc := 0) K dX11_told_0 0 rfl ?_
  refine v_iload_n (pc := 1) K dX11_told_1 1 rfl ?_
  obtain ⟨r2, M3, hc1, hF⟩ := q_bE hF
  refine v_callV (pc := 2) (ci := 10) (As := [.int x1]) (rest := []) (st' := [.int r2]) (r := some (.int r2)) (M1 := M3) K (kX11_hasCode l K.2.2.2.2.2.2.1 hy hc1) (jg_V jl_X11_111 jw_i_X11_hasCode jw_s_X11_hasCode jw_n_X11 jw_c_X11_hasCode) rfl rfl rfl jd_X11_hasCode ⟨Nat.le_of_ble_eq_true rfl, Nat.le_of_ble_eq_true rfl⟩ rfl rfl (Nat.le_of_ble_eq_true rfl) (by decide) (okc_0 hy (by decide)) rfl dX11_told_2 rfl ?_
  refine v_if_ne (pc := 5) (tgt := 10) K dX11_told_5 (by decide) hF (fun c12 hF => ?_) (fun c12 hF => ?_)
  · refine v_aload_n (pc := 10) K dX11_told_10 0 rfl ?_
    refine v_iload_n (pc := 11) K dX11_told_11 1 rfl ?_
    obtain ⟨r5, M6, hc4, hF⟩ := q_bE hF
    obtain ⟨ho7, hF⟩ := q_kE hF
    refine v_callV (pc := 12) (ci := 10) (As := [.int x1]) (rest := []) (st' := [.ref (ly_o y r5)]) (r := some (.ref (ly_o y r5))) (M1 := M6) K (kX11_codeAt l K.2.2.2.2.2.2.1 hy hc4) (jg_V jl_X11_118 jw_i_X11_codeAt jw_s_X11_codeAt jw_n_X11 jw_c_X11_codeAt) rfl rfl rfl jd_X11_codeAt ⟨Nat.le_of_ble_eq_true rfl, Nat.le_of_ble_eq_true rfl⟩ rfl rfl (Nat.le_of_ble_eq_true rfl) (by decide) (okc_0 hy (by decide)) rfl dX11_told_12 rfl ?_
    refine v_astore_n (pc := 15) (lv' := [(3, .ref (ly_o y r5)), (0, .ref (ly_o y 0)), (1, .int x1), (2, .int x2)]) K dX11_told_15 3 rfl (by decide) rfl ?_
    refine v_iload_n (pc := 16) K dX11_told_16 3 rfl ?_
    rcases q_iE hF with ⟨c8, hF⟩ | ⟨c8, hF⟩
    · refine v_tabE (pc := 17) (tgt := 48) (off := 31) K c8 dX11_told_17 (by decide) (by decide) (by decide +kernel) (by decide) ?_
      refine v_aload_n (pc := 48) K dX11_told_48 0 rfl ?_
      refine gX2_ask (pc := 49) K hy ho7 jn_X2 (List.mem_cons_of_mem _ jl_X11_122) dX11_told_49 ?_
      have hz := (Option.some.inj hF).symm
      subst hz
      exact v_iret (pc := 52) K hQ dX11_told_52
    rcases q_iE hF with ⟨c9, hF⟩ | ⟨c9, hF⟩
    · refine v_tabE (pc := 17) (tgt := 53) (off := 36) K c9 dX11_told_17 (by decide) (by decide) (by decide +kernel) (by decide) ?_
      refine v_aload_n (pc := 53) K dX11_told_53 0 rfl ?_
      refine gX2_hours (pc := 54) K hy ho7 jn_X2 (List.mem_cons_of_mem _ jl_X11_125) dX11_told_54 ?_
      have hz := (Option.some.inj hF).symm
      subst hz
      exact v_iret (pc := 57) K hQ dX11_told_57
    rcases q_iE hF with ⟨c10, hF⟩ | ⟨c10, hF⟩
    · refine v_tabE (pc := 17) (tgt := 58) (off := 41) K c10 dX11_told_17 (by decide) (by decide) (by decide +kernel) (by decide) ?_
      refine v_aload_n (pc := 58) K dX11_told_58 0 rfl ?_
      refine gX2_must (pc := 59) K hy ho7 jn_X2 (List.mem_cons_of_mem _ jl_X11_128) dX11_told_59 ?_
      have hz := (Option.some.inj hF).symm
      subst hz
      exact v_iret (pc := 62) K hQ dX11_told_62
    rcases q_iE hF with ⟨c11, hF⟩ | ⟨c11, hF⟩
    · refine v_tabE (pc := 17) (tgt := 63) (off := 46) K c11 dX11_told_17 (by decide) (by decide) (by decide +kernel) (by decide) ?_
      refine v_aload_n (pc := 63) K dX11_told_63 0 rfl ?_
      refine gX2_clauses (pc := 64) K hy ho7 jn_X2 (List.mem_cons_of_mem _ jl_X11_131) dX11_told_64 ?_
      have hz := (Option.some.inj hF).symm
      subst hz
      exact v_iret (pc := 67) K hQ dX11_told_67
    refine v_tabN (pc := 17) (tgt := 68) K dX11_told_17 (q_tn_0_3 c8 c9 c10 c11) (by decide) ?_
    refine v_iconst (pc := 68) (v := -1) K dX11_told_68 rfl ?_
    have hz := (Option.some.inj hF).symm
    subst hz
    exact v_iret (pc := 69) K hQ dX11_told_69
  · refine v_iconst (pc := 8) (v := -1) K dX11_told_8 rfl ?_
    have hz := (Option.some.inj hF).symm
    subst hz
    exact v_iret (pc := 9) K hQ dX11_told_9
set_option maxRecDepth 100000 in
set_option maxHeartbeats 4000000 in
theorem kX11_told (l : Launch) {y : Ly} (hJ : ly_J y) (hy : y.2.2.2.2 = 0) {M M1 : QM} {r : Int32} {x1 : Int32} {x2 : Int32} (hF : fX11_told M x1 x2 = some (r, M1)) : Met l yX11_told wqX11_told rmX11_told (q_P y [.ref (ly_o y 0), .int x1, .int x2] M) (q_E y (some (.int r)) M1) 0 0 (ly_A y) :=
  q_met (by decide) rfl hJ rfl rfl rfl (fun x K hQ => bX11_told_0 l K hy (z := (r, M1)) hQ  hF)
-- ===== X11_weighs (IIIIIIII)I
theorem jd_X11_weighs : yX11_weighs.cls = RX11 ∧ yX11_weighs.cls ≠ "java/lang/invoke/MethodHandle" ∧ yX11_weighs.cls ≠ "java/lang/invoke/VarHandle" ∧ (parseMethodDescriptor yX11_weighs.desc).map (fun d => d.parameters.length) = some 8 := by decide +kernel
abbrev wqX11_weighs : List Cond := .code yX11_weighs cX11_weighs 9 (some .int) :: wsL_law
abbrev rmX11_weighs : Room := { frames := 3, cells := 0, slots := 0, locals := 70 }
def fX11_weighs (M : QM) (x1 : Int32) (x2 : Int32) (x3 : Int32) (x4 : Int32) (x5 : Int32) (x6 : Int32) (x7 : Int32) (x8 : Int32) : Option (Int32 × QM) := (q_b (fX11_hasCode M x1) fun r2 M3 => if r2 = (0 : Int32) then some ((-1 : Int32), M3) else (q_b (fX11_areTwo M3 x2 x3) fun r5 M6 => if r5 = (0 : Int32) then some ((-1 : Int32), M6) else (q_b (fX11_isWithin M6 x4 (0 : Int32) (9 : Int32)) fun r8 M9 => if r8 ≠ (0 : Int32) then (q_b (fX11_isWithin M9 x5 (0 : Int32) (15 : Int32)) fun r11 M12 => if r11 = (0 : Int32) then some ((-1 : Int32), M12) else (q_b (fX11_isWithin M12 x6 (0 : Int32) (15 : Int32)) fun r14 M15 => if r14 = (0 : Int32) then some ((-1 : Int32), M15) else (q_b (fX11_isWithin M15 x7 (0 : Int32) (8 : Int32)) fun r17 M18 => if r17 ≠ (0 : Int32) then (q_bv (fX6_turnTo M18 7 20 x2 x3 x4) fun M21 => (q_bv (fX6_setHour M21 7 x5 x6 x7) fun M24 => (q_b (fX11_isWithin M24 x8 (0 : Int32) (7 : Int32)) fun r26 M27 => if r26 = (0 : Int32) then if x8 ≠ (8 : Int32) then some ((-1 : Int32), M27) else (q_b (fX11_codeAt M27 x1) fun r29 M30 => (if kls r29 = 2 then (q_b (fX2_letsRefuse M30 r29 7) fun r33 M34 => if r33 = (0 : Int32) then some ((0 : Int32), M34) else some ((1 : Int32), M34)) else none)) else (q_b (fX11_codeAt M27 x1) fun r38 M39 => (if kls r38 = 2 then (q_b (fX2_weight M39 r38 x8 7) fun r42 M43 => some (r42, M43)) else none))))) else some ((-1 : Int32), M18)))) else some ((-1 : Int32), M9))))
set_option maxRecDepth 100000 in
set_option maxHeartbeats 4000000 in
theorem bX11_weighs_0 {x : Cx} {y : Ly} (l : Launch) (K : VK x l rmX11_weighs y 9 cX11_weighs RX11 wqX11_weighs) (hy : y.2.2.2.2 = 0) {z : Int32 × QM} (hQ : VQ x y (some (.int z.1)) z.2 (some .int)) {M : QM} {x1 : Int32} {x2 : Int32} {x3 : Int32} {x4 : Int32} {x5 : Int32} {x6 : Int32} {x7 : Int32} {x8 : Int32} (hF : fX11_weighs M x1 x2 x3 x4 x5 x6 x7 x8 = some z) : V x y 9 M 0 [(0, .ref (ly_o y 0)), (1, .int x1), (2, .int x2), (3, .int x3), (4, .int x4), (5, .int x5), (6, .int x6), (7, .int x7), (8, .int x8)] [] := by
  unfold fX11_weighs at hF
  refine v_aload_n (pc := 0) K dX11_weighs_0 0 rfl ?_
  refine v_iload_n (pc := 1) K dX11_weighs_1 1 rfl ?_
  obtain ⟨r2, M3, hc1, hF⟩ := q_bE hF
  refine v_callV (pc := 2) (ci := 10) (As := [.int x1]) (rest := []) (st' := [.int r2]) (r := some (.int r2)) (M1 := M3) K (kX11_hasCode l K.2.2.2.2.2.2.1 hy hc1) (jg_V jl_X11_111 jw_i_X11_hasCode jw_s_X11_hasCode jw_n_X11 jw_c_X11_hasCode) rfl rfl rfl jd_X11_hasCode ⟨Nat.le_of_ble_eq_true rfl, Nat.le_of_ble_eq_true rfl⟩ rfl rfl (Nat.le_of_ble_eq_true rfl) (by decide) (okc_0 hy (by decide)) rfl dX11_weighs_2 rfl ?_
  refine v_if_eq (pc := 5) (tgt := 28) K dX11_weighs_5 (by decide) hF (fun c50 hF => ?_) (fun c50 hF => ?_)
  · refine v_iconst (pc := 28) (v := -1) K dX11_weighs_28 rfl ?_
    have hz := (Option.some.inj hF).symm
    subst hz
    exact v_iret (pc := 29) K hQ dX11_weighs_29
  · refine v_aload_n (pc := 8) K dX11_weighs_8 0 rfl ?_
    refine v_iload_n (pc := 9) K dX11_weighs_9 2 rfl ?_
    refine v_iload_n (pc := 10) K dX11_weighs_10 3 rfl ?_
    obtain ⟨r5, M6, hc4, hF⟩ := q_bE hF
    refine v_callV (pc := 11) (ci := 10) (As := [.int x2, .int x3]) (rest := []) (st' := [.int r5]) (r := some (.int r5)) (M1 := M6) K (kX11_areTwo l K.2.2.2.2.2.2.1 hy hc4) (jg_V jl_X11_81 jw_i_X11_areTwo jw_s_X11_areTwo jw_n_X11 jw_c_X11_areTwo) rfl rfl rfl jd_X11_areTwo ⟨Nat.le_of_ble_eq_true rfl, Nat.le_of_ble_eq_true rfl⟩ rfl rfl (Nat.le_of_ble_eq_true rfl) (by decide) (okc_0 hy (by decide)) rfl dX11_weighs_11 rfl ?_
    refine v_if_eq (pc := 14) (tgt := 28) K dX11_weighs_14 (by decide) hF (fun c49 hF => ?_) (fun c49 hF => ?_)
    · refine v_iconst (pc := 28) (v := -1) K dX11_weighs_28 rfl ?_
      have hz := (Option.some.inj hF).symm
      subst hz
      exact v_iret (pc := 29) K hQ dX11_weighs_29
    · refine v_iload (pc := 17) K dX11_weighs_17 4 rfl ?_
      refine v_iconst (pc := 19) (v := 0) K dX11_weighs_19 rfl ?_
      refine v_bipush (pc := 20) (v := 9) K dX11_weighs_20 rfl ?_
      obtain ⟨r8, M9, hc7, hF⟩ := q_bE hF
      refine v_callS (pc := 22) (As := [.int x4, .int (0 : Int32), .int (9 : Int32)]) (rest := []) (st' := [.int r8]) (r := some (.int r8)) (M1 := M9) K (kX11_isWithin l K.2.2.2.2.2.2.1 hy hc7) (jg_S jl_X11_73 jw_t_X11_isWithin jw_n_X11 jw_c_X11_isWithin) rfl rfl rfl jd_X11_isWithin ⟨Nat.le_of_ble_eq_true rfl, Nat.le_of_ble_eq_true rfl⟩ rfl rfl (Nat.le_of_ble_eq_true rfl) dX11_weighs_22 rfl ?_
      refine v_if_ne (pc := 25) (tgt := 30) K dX11_weighs_25 (by decide) hF (fun c48 hF => ?_) (fun c48 hF => ?_)
      · refine v_iload (pc := 30) K dX11_weighs_30 5 rfl ?_
        refine v_iconst (pc := 32) (v := 0) K dX11_weighs_32 rfl ?_
        refine v_bipush (pc := 33) (v := 15) K dX11_weighs_33 rfl ?_
        obtain ⟨r11, M12, hc10, hF⟩ := q_bE hF
        refine v_callS (pc := 35) (As := [.int x5, .int (0 : Int32), .int (15 : Int32)]) (rest := []) (st' := [.int r11]) (r := some (.int r11)) (M1 := M12) K (kX11_isWithin l K.2.2.2.2.2.2.1 hy hc10) (jg_S jl_X11_73 jw_t_X11_isWithin jw_n_X11 jw_c_X11_isWithin) rfl rfl rfl jd_X11_isWithin ⟨Nat.le_of_ble_eq_true rfl, Nat.le_of_ble_eq_true rfl⟩ rfl rfl (Nat.le_of_ble_eq_true rfl) dX11_weighs_35 rfl ?_
        refine v_if_eq (pc := 38) (tgt := 63) K dX11_weighs_38 (by decide) hF (fun c47 hF => ?_) (fun c47 hF => ?_)
        · refine v_iconst (pc := 63) (v := -1) K dX11_weighs_63 rfl ?_
          have hz := (Option.some.inj hF).symm
          subst hz
          exact v_iret (pc := 64) K hQ dX11_weighs_64
        · refine v_iload (pc := 41) K dX11_weighs_41 6 rfl ?_
          refine v_iconst (pc := 43) (v := 0) K dX11_weighs_43 rfl ?_
          refine v_bipush (pc := 44) (v := 15) K dX11_weighs_44 rfl ?_
          obtain ⟨r14, M15, hc13, hF⟩ := q_bE hF
          refine v_callS (pc := 46) (As := [.int x6, .int (0 : Int32), .int (15 : Int32)]) (rest := []) (st' := [.int r14]) (r := some (.int r14)) (M1 := M15) K (kX11_isWithin l K.2.2.2.2.2.2.1 hy hc13) (jg_S jl_X11_73 jw_t_X11_isWithin jw_n_X11 jw_c_X11_isWithin) rfl rfl rfl jd_X11_isWithin ⟨Nat.le_of_ble_eq_true rfl, Nat.le_of_ble_eq_true rfl⟩ rfl rfl (Nat.le_of_ble_eq_true rfl) dX11_weighs_46 rfl ?_
          refine v_if_eq (pc := 49) (tgt := 63) K dX11_weighs_49 (by decide) hF (fun c46 hF => ?_) (fun c46 hF => ?_)
          · refine v_iconst (pc := 63) (v := -1) K dX11_weighs_63 rfl ?_
            have hz := (Option.some.inj hF).symm
            subst hz
            exact v_iret (pc := 64) K hQ dX11_weighs_64
          · refine v_iload (pc := 52) K dX11_weighs_52 7 rfl ?_
            refine v_iconst (pc := 54) (v := 0) K dX11_weighs_54 rfl ?_
            refine v_bipush (pc := 55) (v := 8) K dX11_weighs_55 rfl ?_
            obtain ⟨r17, M18, hc16, hF⟩ := q_bE hF
            refine v_callS (pc := 57) (As := [.int x7, .int (0 : Int32), .int (8 : Int32)]) (rest := []) (st' := [.int r17]) (r := some (.int r17)) (M1 := M18) K (kX11_isWithin l K.2.2.2.2.2.2.1 hy hc16) (jg_S jl_X11_73 jw_t_X11_isWithin jw_n_X11 jw_c_X11_isWithin) rfl rfl rfl jd_X11_isWithin ⟨Nat.le_of_ble_eq_true rfl, Nat.le_of_ble_eq_true rfl⟩ rfl rfl (Nat.le_of_ble_eq_true rfl) dX11_weighs_57 rfl ?_
            refine v_if_ne (pc := 60) (tgt := 65) K dX11_weighs_60 (by decide) hF (fun c45 hF => ?_) (fun c45 hF => ?_)
            · refine v_aload_n (pc := 65) K dX11_weighs_65 0 rfl ?_
              refine gX11_sight (pc := 66) K hy (by decide) jn_X11 (List.mem_cons_of_mem _ jl_X11_48) dX11_weighs_66 ?_
              refine v_aload_n (pc := 69) K dX11_weighs_69 0 rfl ?_
              refine gX11_book (pc := 70) K hy (by decide) jn_X11 (List.mem_cons_of_mem _ jl_X11_37) dX11_weighs_70 ?_
              refine v_iload_n (pc := 73) K dX11_weighs_73 2 rfl ?_
              refine v_iload_n (pc := 74) K dX11_weighs_74 3 rfl ?_
              refine v_iload (pc := 75) K dX11_weighs_75 4 rfl ?_
              obtain ⟨M21, hc19, hF⟩ := q_bvE hF
              refine v_callV (pc := 77) (ci := 6) (As := [.ref (ly_o y 20), .int x2, .int x3, .int x4]) (rest := []) (st' := []) (r := none) (M1 := M21) K (kX6_turnTo l K.2.2.2.2.2.2.1 hy (by decide) (by decide) hc19) (jg_V jl_X11_134 jw_i_X6_turnTo jw_s_X6_turnTo jw_n_X6 jw_c_X6_turnTo) rfl rfl rfl jd_X6_turnTo ⟨Nat.le_of_ble_eq_true rfl, Nat.le_of_ble_eq_true rfl⟩ rfl rfl (Nat.le_of_ble_eq_true rfl) (by decide) (okc_0 hy (by decide)) rfl dX11_weighs_77 rfl ?_
              refine v_aload_n (pc := 80) K dX11_weighs_80 0 rfl ?_
              refine gX11_sight (pc := 81) K hy (by decide) jn_X11 (List.mem_cons_of_mem _ jl_X11_48) dX11_weighs_81 ?_
              refine v_iload (pc := 84) K dX11_weighs_84 5 rfl ?_
              refine v_iload (pc := 86) K dX11_weighs_86 6 rfl ?_
              refine v_iload (pc := 88) K dX11_weighs_88 7 rfl ?_
              obtain ⟨M24, hc22, hF⟩ := q_bvE hF
              refine v_callV (pc := 90) (ci := 6) (As := [.int x5, .int x6, .int x7]) (rest := []) (st' := []) (r := none) (M1 := M24) K (kX6_setHour l K.2.2.2.2.2.2.1 hy (by decide) hc22) (jg_V jl_X11_138 jw_i_X6_setHour jw_s_X6_setHour jw_n_X6 jw_c_X6_setHour) rfl rfl rfl jd_X6_setHour ⟨Nat.le_of_ble_eq_true rfl, Nat.le_of_ble_eq_true rfl⟩ rfl rfl (Nat.le_of_ble_eq_true rfl) (by decide) (okc_0 hy (by decide)) rfl dX11_weighs_90 rfl ?_
              refine v_iload (pc := 93) K dX11_weighs_93 8 rfl ?_
              refine v_iconst (pc := 95) (v := 0) K dX11_weighs_95 rfl ?_
              refine v_bipush (pc := 96) (v := 7) K dX11_weighs_96 rfl ?_
              obtain ⟨r26, M27, hc25, hF⟩ := q_bE hF
              refine v_callS (pc := 98) (As := [.int x8, .int (0 : Int32), .int (7 : Int32)]) (rest := []) (st' := [.int r26]) (r := some (.int r26)) (M1 := M27) K (kX11_isWithin l K.2.2.2.2.2.2.1 hy hc25) (jg_S jl_X11_73 jw_t_X11_isWithin jw_n_X11 jw_c_X11_isWithin) rfl rfl rfl jd_X11_isWithin ⟨Nat.le_of_ble_eq_true rfl, Nat.le_of_ble_eq_true rfl⟩ rfl rfl (Nat.le_of_ble_eq_true rfl) dX11_weighs_98 rfl ?_
              refine v_if_eq (pc := 101) (tgt := 119) K dX11_weighs_101 (by decide) hF (fun c44 hF => ?_) (fun c44 hF => ?_)
              · refine v_iload (pc := 119) K dX11_weighs_119 8 rfl ?_
                refine v_bipush (pc := 121) (v := 8) K dX11_weighs_121 rfl ?_
                refine v_icmp_ne (pc := 123) (tgt := 147) K dX11_weighs_123 (by decide) hF (fun c36 hF => ?_) (fun c36 hF => ?_)
                · refine v_iconst (pc := 147) (v := -1) K dX11_weighs_147 rfl ?_
                  have hz := (Option.some.inj hF).symm
                  subst hz
                  exact v_iret (pc := 148) K hQ dX11_weighs_148
                · refine v_aload_n (pc := 126) K dX11_weighs_126 0 rfl ?_
                  refine v_iload_n (pc := 127) K dX11_weighs_127 1 rfl ?_
                  obtain ⟨r29, M30, hc28, hF⟩ := q_bE hF
                  obtain ⟨ho31, hF⟩ := q_kE hF
                  refine v_callV (pc := 128) (ci := 10) (As := [.int x1]) (rest := []) (st' := [.ref (ly_o y r29)]) (r := some (.ref (ly_o y r29))) (M1 := M30) K (kX11_codeAt l K.2.2.2.2.2.2.1 hy hc28) (jg_V jl_X11_118 jw_i_X11_codeAt jw_s_X11_codeAt jw_n_X11 jw_c_X11_codeAt) rfl rfl rfl jd_X11_codeAt ⟨Nat.le_of_ble_eq_true rfl, Nat.le_of_ble_eq_true rfl⟩ rfl rfl (Nat.le_of_ble_eq_true rfl) (by decide) (okc_0 hy (by decide)) rfl dX11_weighs_128 rfl ?_
                  refine v_aload_n (pc := 131) K dX11_weighs_131 0 rfl ?_
                  refine gX11_sight (pc := 132) K hy (by decide) jn_X11 (List.mem_cons_of_mem _ jl_X11_48) dX11_weighs_132 ?_
                  obtain ⟨r33, M34, hc32, hF⟩ := q_bE hF
                  refine v_callV (pc := 135) (ci := 2) (As := [.ref (ly_o y 7)]) (rest := []) (st' := [.int r33]) (r := some (.int r33)) (M1 := M34) K (kX2_letsRefuse l K.2.2.2.2.2.2.1 hy ho31 (by decide) hc32) (jg_V jl_X11_146 jw_i_X2_letsRefuse jw_s_X2_letsRefuse jw_n_X2 jw_c_X2_letsRefuse) rfl rfl rfl jd_X2_letsRefuse ⟨Nat.le_of_ble_eq_true rfl, Nat.le_of_ble_eq_true rfl⟩ rfl rfl (Nat.le_of_ble_eq_true rfl) ho31 (okc_0 hy (by decide)) rfl dX11_weighs_135 rfl ?_
                  refine v_if_eq (pc := 138) (tgt := 145) K dX11_weighs_138 (by decide) hF (fun c35 hF => ?_) (fun c35 hF => ?_)
                  · refine v_iconst (pc := 145) (v := 0) K dX11_weighs_145 rfl ?_
                    have hz := (Option.some.inj hF).symm
                    subst hz
                    exact v_iret (pc := 146) K hQ dX11_weighs_146
                  · refine v_iconst (pc := 141) (v := 1) K dX11_weighs_141 rfl ?_
                    refine v_goto (pc := 142) (tgt := 146) K dX11_weighs_142 (by decide) ?_
                    have hz := (Option.some.inj hF).symm
                    subst hz
                    exact v_iret (pc := 146) K hQ dX11_weighs_146
              · refine v_aload_n (pc := 104) K dX11_weighs_104 0 rfl ?_
                refine v_iload_n (pc := 105) K dX11_weighs_105 1 rfl ?_
                obtain ⟨r38, M39, hc37, hF⟩ := q_bE hF
                obtain ⟨ho40, hF⟩ := q_kE hF
                refine v_callV (pc := 106) (ci := 10) (As := [.int x1]) (rest := []) (st' := [.ref (ly_o y r38)]) (r := some (.ref (ly_o y r38))) (M1 := M39) K (kX11_codeAt l K.2.2.2.2.2.2.1 hy hc37) (jg_V jl_X11_118 jw_i_X11_codeAt jw_s_X11_codeAt jw_n_X11 jw_c_X11_codeAt) rfl rfl rfl jd_X11_codeAt ⟨Nat.le_of_ble_eq_true rfl, Nat.le_of_ble_eq_true rfl⟩ rfl rfl (Nat.le_of_ble_eq_true rfl) (by decide) (okc_0 hy (by decide)) rfl dX11_weighs_106 rfl ?_
                refine v_iload (pc := 109) K dX11_weighs_109 8 rfl ?_
                refine v_aload_n (pc := 111) K dX11_weighs_111 0 rfl ?_
                refine gX11_sight (pc := 112) K hy (by decide) jn_X11 (List.mem_cons_of_mem _ jl_X11_48) dX11_weighs_112 ?_
                obtain ⟨r42, M43, hc41, hF⟩ := q_bE hF
                refine v_callV (pc := 115) (ci := 2) (As := [.int x8, .ref (ly_o y 7)]) (rest := []) (st' := [.int r42]) (r := some (.int r42)) (M1 := M43) K (kX2_weight l K.2.2.2.2.2.2.1 hy ho40 (by decide) hc41) (jg_V jl_X11_142 jw_i_X2_weight jw_s_X2_weight jw_n_X2 jw_c_X2_weight) rfl rfl rfl jd_X2_weight ⟨Nat.le_of_ble_eq_true rfl, Nat.le_of_ble_eq_true rfl⟩ rfl rfl (Nat.le_of_ble_eq_true rfl) ho40 (okc_0 hy (by decide)) rfl dX11_weighs_115 rfl ?_
                have hz := (Option.some.inj hF).symm
                subst hz
                exact v_iret (pc := 118) K hQ dX11_weighs_118
            · refine v_iconst (pc := 63) (v := -1) K dX11_weighs_63 rfl ?_
              have hz := (Option.some.inj hF).symm
              subst hz
              exact v_iret (pc := 64) K hQ dX11_weighs_64
      · refine v_iconst (pc := 28) (v := -1) K dX11_weighs_28 rfl ?_
        have hz := (Option.some.inj hF).symm
        subst hz
        exact v_iret (pc := 29) K hQ dX11_weighs_29
set_option maxRecDepth 100000 in
set_option maxHeartbeats 4000000 in
theorem kX11_weighs (l : Launch) {y : Ly} (hJ : ly_J y) (hy : y.2.2.2.2 = 0) {M M1 : QM} {r : Int32} {x1 : Int32} {x2 : Int32} {x3 : Int32} {x4 : Int32} {x5 : Int32} {x6 : Int32} {x7 : Int32} {x8 : Int32} (hF : fX11_weighs M x1 x2 x3 x4 x5 x6 x7 x8 = some (r, M1)) : Met l yX11_weighs wqX11_weighs rmX11_weighs (q_P y [.ref (ly_o y 0), .int x1, .int x2, .int x3, .int x4, .int x5, .int x6, .int x7, .int x8] M) (q_E y (some (.int r)) M1) 0 0 (ly_A y) :=
  q_met (by decide) rfl hJ rfl rfl rfl (fun x K hQ => bX11_weighs_0 l K hy (z := (r, M1)) hQ  hF)
-- ===== X11_study (LTwoCards$Quarrel;)V
theorem jd_X11_study : yX11_study.cls = RX11 ∧ yX11_study.cls ≠ "java/lang/invoke/MethodHandle" ∧ yX11_study.cls ≠ "java/lang/invoke/VarHandle" ∧ (parseMethodDescriptor yX11_study.desc).map (fun d => d.parameters.length) = some 1 := by decide +kernel
abbrev wqX11_study : List Cond := .code yX11_study cX11_study 2 none :: wsL_law
abbrev rmX11_study : Room := { frames := 4, cells := 0, slots := 0, locals := 93 }
def fX11_study (M : QM) (o1 : Nat) : Option QM := (q_b (fX11_codeAt M (q_i M o1 4)) fun r2 M3 => (if kls r2 = 2 then (q_b (fX11_codeAt M3 (q_i M3 o1 5)) fun r6 M7 => (if kls r6 = 2 then (q_bv (fX0_set M7 20 (q_i M o1 2) (q_i M o1 3) (q_i M o1 6) r2 r6) fun M11 => some M11) else none)) else none))
set_option maxRecDepth 100000 in
set_option maxHeartbeats 4000000 in
theorem bX11_study_0 {x : Cx} {y : Ly} (l : Launch) (K : VK x l rmX11_study y 2 cX11_study RX11 wqX11_study) (hy : y.2.2.2.2 = 0) {z : QM} (hQ : VQ x y none z none) {M : QM} {o1 : Nat} (ho1 : kls o1 = 4) (hF : fX11_study M o1 = some z) : V x y 2 M 0 [(0, .ref (ly_o y 0)), (1, .ref (ly_o y o1))] [] := by
  unfold fX11_study at hF
  refine v_aload_n (pc := 0) K dX11_study_0 0 rfl ?_
  refine gX11_affair (pc := 1) K hy (by decide) jn_X11 (List.mem_cons_of_mem _ jl_X11_55) dX11_study_1 ?_
  refine v_aload_n (pc := 4) K dX11_study_4 0 rfl ?_
  refine gX11_book (pc := 5) K hy (by decide) jn_X11 (List.mem_cons_of_mem _ jl_X11_37) dX11_study_5 ?_
  refine v_aload_n (pc := 8) K dX11_study_8 1 rfl ?_
  refine gX4_first (pc := 9) K hy ho1 jn_X4 (List.mem_cons_of_mem _ jl_X11_300) dX11_study_9 ?_
  refine v_aload_n (pc := 12) K dX11_study_12 1 rfl ?_
  refine gX4_second (pc := 13) K hy ho1 jn_X4 (List.mem_cons_of_mem _ jl_X11_303) dX11_study_13 ?_
  refine v_aload_n (pc := 16) K dX11_study_16 1 rfl ?_
  refine gX4_ladies (pc := 17) K hy ho1 jn_X4 (List.mem_cons_of_mem _ jl_X11_306) dX11_study_17 ?_
  refine v_aload_n (pc := 20) K dX11_study_20 0 rfl ?_
  refine v_aload_n (pc := 21) K dX11_study_21 1 rfl ?_
  refine gX4_firstCode (pc := 22) K hy ho1 jn_X4 (List.mem_cons_of_mem _ jl_X11_309) dX11_study_22 ?_
  obtain ⟨r2, M3, hc1, hF⟩ := q_bE hF
  obtain ⟨ho4, hF⟩ := q_kE hF
  refine v_callV (pc := 25) (ci := 10) (As := [.int (q_i M o1 4)]) (rest := [.int (q_i M o1 6), .int (q_i M o1 3), .int (q_i M o1 2), .ref (ly_o y 20), .ref (ly_o y 4)]) (st' := [.ref (ly_o y r2), .int (q_i M o1 6), .int (q_i M o1 3), .int (q_i M o1 2), .ref (ly_o y 20), .ref (ly_o y 4)]) (r := some (.ref (ly_o y r2))) (M1 := M3) K (kX11_codeAt l K.2.2.2.2.2.2.1 hy hc1) (jg_V jl_X11_118 jw_i_X11_codeAt jw_s_X11_codeAt jw_n_X11 jw_c_X11_codeAt) rfl rfl rfl jd_X11_codeAt ⟨Nat.le_of_ble_eq_true rfl, Nat.le_of_ble_eq_true rfl⟩ rfl rfl (Nat.le_of_ble_eq_true rfl) (by decide) (okc_0 hy (by decide)) rfl dX11_study_25 rfl ?_
  refine v_aload_n (pc := 28) K dX11_study_28 0 rfl ?_
  refine v_aload_n (pc := 29) K dX11_study_29 1 rfl ?_
  refine gX4_secondCode (pc := 30) K hy ho1 jn_X4 (List.mem_cons_of_mem _ jl_X11_312) dX11_study_30 ?_
  obtain ⟨r6, M7, hc5, hF⟩ := q_bE hF
  obtain ⟨ho8, hF⟩ := q_kE hF
  refine v_callV (pc := 33) (ci := 10) (As := [.int (q_i M3 o1 5)]) (rest := [.ref (ly_o y r2), .int (q_i M o1 6), .int (q_i M o1 3), .int (q_i M o1 2), .ref (ly_o y 20), .ref (ly_o y 4)]) (st' := [.ref (ly_o y r6), .ref (ly_o y r2), .int (q_i M o1 6), .int (q_i M o1 3), .int (q_i M o1 2), .ref (ly_o y 20), .ref (ly_o y 4)]) (r := some (.ref (ly_o y r6))) (M1 := M7) K (kX11_codeAt l K.2.2.2.2.2.2.1 hy hc5) (jg_V jl_X11_118 jw_i_X11_codeAt jw_s_X11_codeAt jw_n_X11 jw_c_X11_codeAt) rfl rfl rfl jd_X11_codeAt ⟨Nat.le_of_ble_eq_true rfl, Nat.le_of_ble_eq_true rfl⟩ rfl rfl (Nat.le_of_ble_eq_true rfl) (by decide) (okc_0 hy (by decide)) rfl dX11_study_33 rfl ?_
  obtain ⟨M11, hc9, hF⟩ := q_bvE hF
  refine v_callV (pc := 36) (ci := 0) (As := [.ref (ly_o y 20), .int (q_i M o1 2), .int (q_i M o1 3), .int (q_i M o1 6), .ref (ly_o y r2), .ref (ly_o y r6)]) (rest := []) (st' := []) (r := none) (M1 := M11) K (kX0_set l K.2.2.2.2.2.2.1 hy (by decide) ho4 ho8 hc9) (jg_V jl_X11_265 jw_i_X0_set jw_s_X0_set jw_n_X0 jw_c_X0_set) rfl rfl rfl jd_X0_set ⟨Nat.le_of_ble_eq_true rfl, Nat.le_of_ble_eq_true rfl⟩ rfl rfl (Nat.le_of_ble_eq_true rfl) (by decide) (okc_0 hy (by decide)) rfl dX11_study_36 rfl ?_
  have hz := (Option.some.inj hF).symm
  subst hz
  exact v_vret (pc := 39) K hQ dX11_study_39
set_option maxRecDepth 100000 in
set_option maxHeartbeats 4000000 in
theorem kX11_study (l : Launch) {y : Ly} (hJ : ly_J y) (hy : y.2.2.2.2 = 0) {M M1 : QM} {o1 : Nat} (ho1 : kls o1 = 4) (hF : fX11_study M o1 = some M1) : Met l yX11_study wqX11_study rmX11_study (q_P y [.ref (ly_o y 0), .ref (ly_o y o1)] M) (q_E y none M1) 0 0 (ly_A y) :=
  q_met (by decide) rfl hJ rfl rfl rfl (fun x K hQ => bX11_study_0 l K hy (z := M1) hQ ho1 hF)
-- ===== X11_quarrel (IIII)I
theorem jd_X11_quarrel : yX11_quarrel.cls = RX11 ∧ yX11_quarrel.cls ≠ "java/lang/invoke/MethodHandle" ∧ yX11_quarrel.cls ≠ "java/lang/invoke/VarHandle" ∧ (parseMethodDescriptor yX11_quarrel.desc).map (fun d => d.parameters.length) = some 4 := by decide +kernel
abbrev wqX11_quarrel : List Cond := .code yX11_quarrel cX11_quarrel 7 (some .int) :: wsL_law
abbrev rmX11_quarrel : Room := { frames := 5, cells := 0, slots := 0, locals := 114 }
def fX11_quarrel (M : QM) (x1 : Int32) (x2 : Int32) (x3 : Int32) (x4 : Int32) : Option (Int32 × QM) := (q_b (fX11_areTwo M x1 x2) fun r2 M3 => if r2 = (0 : Int32) then some ((-1 : Int32), M3) else (q_b (fX11_isWithin M3 x3 (0 : Int32) (9 : Int32)) fun r5 M6 => if r5 = (0 : Int32) then some ((-1 : Int32), M6) else (q_b (fX11_isWithin M6 x4 (0 : Int32) (3 : Int32)) fun r8 M9 => if r8 ≠ (0 : Int32) then (q_b (fX1_codeOf M9 20 x1) fun r11 M12 => (q_b (fX11_hasCode M12 r11) fun r14 M15 => if r14 = (0 : Int32) then some ((-1 : Int32), M15) else (q_b (fX1_codeOf M15 20 x2) fun r17 M18 => (q_b (fX11_hasCode M18 r17) fun r20 M21 => if r20 ≠ (0 : Int32) then (q_b (fX1_addQuarrel M21 20 x1 x2 x3) fun r23 M24 => (q_b (fX1_quarrelAt M24 20 r23) fun r26 M27 => q_o r26 (some ((-1 : Int32), M27)) fun o28 => (if kls o28 = 4 then (q_bv (fX11_study M27 o28) fun M32 => (q_b (fX0_open M32 x4 (1 : Int32)) fun r34 M35 => (q_bv (fX4_add M35 o28 x4 r34) fun M38 => some (r23, M38)))) else none))) else some ((-1 : Int32), M21))))) else some ((-1 : Int32), M9))))
set_option maxRecDepth 100000 in
set_option maxHeartbeats 4000000 in
theorem bX11_quarrel_0 {x : Cx} {y : Ly} (l : Launch) (K : VK x l rmX11_quarrel y 7 cX11_quarrel RX11 wqX11_quarrel) (hy : y.2.2.2.2 = 0) {z : Int32 × QM} (hQ : VQ x y (some (.int z.1)) z.2 (some .int)) {M : QM} {x1 : Int32} {x2 : Int32} {x3 : Int32} {x4 : Int32} (hF : fX11_quarrel M x1 x2 x3 x4 = some z) : V x y 7 M 0 [(0, .ref (ly_o y 0)), (1, .int x1), (2, .int x2), (3, .int x3), (4, .int x4)] [] := by
  unfold fX11_quarrel at hF
  refine v_aload_n (pc := 0) K dX11_quarrel_0 0 rfl ?_
  refine v_iload_n (pc := 1) K dX11_quarrel_1 1 rfl ?_
  refine v_iload_n (pc := 2) K dX11_quarrel_2 2 rfl ?_
  obtain ⟨r2, M3, hc1, hF⟩ := q_bE hF
  refine v_callV (pc := 3) (ci := 10) (As := [.int x1, .int x2]) (rest := []) (st' := [.int r2]) (r := some (.int r2)) (M1 := M3) K (kX11_areTwo l K.2.2.2.2.2.2.1 hy hc1) (jg_V jl_X11_81 jw_i_X11_areTwo jw_s_X11_areTwo jw_n_X11 jw_c_X11_areTwo) rfl rfl rfl jd_X11_areTwo ⟨Nat.le_of_ble_eq_true rfl, Nat.le_of_ble_eq_true rfl⟩ rfl rfl (Nat.le_of_ble_eq_true rfl) (by decide) (okc_0 hy (by decide)) rfl dX11_quarrel_3 rfl ?_
  refine v_if_eq (pc := 6) (tgt := 29) K dX11_quarrel_6 (by decide) hF (fun c43 hF => ?_) (fun c43 hF => ?_)
  · refine v_iconst (pc := 29) (v := -1) K dX11_quarrel_29 rfl ?_
    have hz := (Option.some.inj hF).symm
    subst hz
    exact v_iret (pc := 30) K hQ dX11_quarrel_30
  · refine v_iload_n (pc := 9) K dX11_quarrel_9 3 rfl ?_
    refine v_iconst (pc := 10) (v := 0) K dX11_quarrel_10 rfl ?_
    refine v_bipush (pc := 11) (v := 9) K dX11_quarrel_11 rfl ?_
    obtain ⟨r5, M6, hc4, hF⟩ := q_bE hF
    refine v_callS (pc := 13) (As := [.int x3, .int (0 : Int32), .int (9 : Int32)]) (rest := []) (st' := [.int r5]) (r := some (.int r5)) (M1 := M6) K (kX11_isWithin l K.2.2.2.2.2.2.1 hy hc4) (jg_S jl_X11_73 jw_t_X11_isWithin jw_n_X11 jw_c_X11_isWithin) rfl rfl rfl jd_X11_isWithin ⟨Nat.le_of_ble_eq_true rfl, Nat.le_of_ble_eq_true rfl⟩ rfl rfl (Nat.le_of_ble_eq_true rfl) dX11_quarrel_13 rfl ?_
    refine v_if_eq (pc := 16) (tgt := 29) K dX11_quarrel_16 (by decide) hF (fun c42 hF => ?_) (fun c42 hF => ?_)
    · refine v_iconst (pc := 29) (v := -1) K dX11_quarrel_29 rfl ?_
      have hz := (Option.some.inj hF).symm
      subst hz
      exact v_iret (pc := 30) K hQ dX11_quarrel_30
    · refine v_iload (pc := 19) K dX11_quarrel_19 4 rfl ?_
      refine v_iconst (pc := 21) (v := 0) K dX11_quarrel_21 rfl ?_
      refine v_iconst (pc := 22) (v := 3) K dX11_quarrel_22 rfl ?_
      obtain ⟨r8, M9, hc7, hF⟩ := q_bE hF
      refine v_callS (pc := 23) (As := [.int x4, .int (0 : Int32), .int (3 : Int32)]) (rest := []) (st' := [.int r8]) (r := some (.int r8)) (M1 := M9) K (kX11_isWithin l K.2.2.2.2.2.2.1 hy hc7) (jg_S jl_X11_73 jw_t_X11_isWithin jw_n_X11 jw_c_X11_isWithin) rfl rfl rfl jd_X11_isWithin ⟨Nat.le_of_ble_eq_true rfl, Nat.le_of_ble_eq_true rfl⟩ rfl rfl (Nat.le_of_ble_eq_true rfl) dX11_quarrel_23 rfl ?_
      refine v_if_ne (pc := 26) (tgt := 31) K dX11_quarrel_26 (by decide) hF (fun c41 hF => ?_) (fun c41 hF => ?_)
      · refine v_aload_n (pc := 31) K dX11_quarrel_31 0 rfl ?_
        refine v_aload_n (pc := 32) K dX11_quarrel_32 0 rfl ?_
        refine gX11_book (pc := 33) K hy (by decide) jn_X11 (List.mem_cons_of_mem _ jl_X11_37) dX11_quarrel_33 ?_
        refine v_iload_n (pc := 36) K dX11_quarrel_36 1 rfl ?_
        obtain ⟨r11, M12, hc10, hF⟩ := q_bE hF
        refine v_callV (pc := 37) (ci := 1) (As := [.int x1]) (rest := [.ref (ly_o y 0)]) (st' := [.int r11, .ref (ly_o y 0)]) (r := some (.int r11)) (M1 := M12) K (kX1_codeOf l K.2.2.2.2.2.2.1 hy (by decide) hc10) (jg_V jl_X11_150 jw_i_X1_codeOf jw_s_X1_codeOf jw_n_X1 jw_c_X1_codeOf) rfl rfl rfl jd_X1_codeOf ⟨Nat.le_of_ble_eq_true rfl, Nat.le_of_ble_eq_true rfl⟩ rfl rfl (Nat.le_of_ble_eq_true rfl) (by decide) (okc_0 hy (by decide)) rfl dX11_quarrel_37 rfl ?_
        obtain ⟨r14, M15, hc13, hF⟩ := q_bE hF
        refine v_callV (pc := 40) (ci := 10) (As := [.int r11]) (rest := []) (st' := [.int r14]) (r := some (.int r14)) (M1 := M15) K (kX11_hasCode l K.2.2.2.2.2.2.1 hy hc13) (jg_V jl_X11_111 jw_i_X11_hasCode jw_s_X11_hasCode jw_n_X11 jw_c_X11_hasCode) rfl rfl rfl jd_X11_hasCode ⟨Nat.le_of_ble_eq_true rfl, Nat.le_of_ble_eq_true rfl⟩ rfl rfl (Nat.le_of_ble_eq_true rfl) (by decide) (okc_0 hy (by decide)) rfl dX11_quarrel_40 rfl ?_
        refine v_if_eq (pc := 43) (tgt := 61) K dX11_quarrel_43 (by decide) hF (fun c40 hF => ?_) (fun c40 hF => ?_)
        · refine v_iconst (pc := 61) (v := -1) K dX11_quarrel_61 rfl ?_
          have hz := (Option.some.inj hF).symm
          subst hz
          exact v_iret (pc := 62) K hQ dX11_quarrel_62
        · refine v_aload_n (pc := 46) K dX11_quarrel_46 0 rfl ?_
          refine v_aload_n (pc := 47) K dX11_quarrel_47 0 rfl ?_
          refine gX11_book (pc := 48) K hy (by decide) jn_X11 (List.mem_cons_of_mem _ jl_X11_37) dX11_quarrel_48 ?_
          refine v_iload_n (pc := 51) K dX11_quarrel_51 2 rfl ?_
          obtain ⟨r17, M18, hc16, hF⟩ := q_bE hF
          refine v_callV (pc := 52) (ci := 1) (As := [.int x2]) (rest := [.ref (ly_o y 0)]) (st' := [.int r17, .ref (ly_o y 0)]) (r := some (.int r17)) (M1 := M18) K (kX1_codeOf l K.2.2.2.2.2.2.1 hy (by decide) hc16) (jg_V jl_X11_150 jw_i_X1_codeOf jw_s_X1_codeOf jw_n_X1 jw_c_X1_codeOf) rfl rfl rfl jd_X1_codeOf ⟨Nat.le_of_ble_eq_true rfl, Nat.le_of_ble_eq_true rfl⟩ rfl rfl (Nat.le_of_ble_eq_true rfl) (by decide) (okc_0 hy (by decide)) rfl dX11_quarrel_52 rfl ?_
          obtain ⟨r20, M21, hc19, hF⟩ := q_bE hF
          refine v_callV (pc := 55) (ci := 10) (As := [.int r17]) (rest := []) (st' := [.int r20]) (r := some (.int r20)) (M1 := M21) K (kX11_hasCode l K.2.2.2.2.2.2.1 hy hc19) (jg_V jl_X11_111 jw_i_X11_hasCode jw_s_X11_hasCode jw_n_X11 jw_c_X11_hasCode) rfl rfl rfl jd_X11_hasCode ⟨Nat.le_of_ble_eq_true rfl, Nat.le_of_ble_eq_true rfl⟩ rfl rfl (Nat.le_of_ble_eq_true rfl) (by decide) (okc_0 hy (by decide)) rfl dX11_quarrel_55 rfl ?_
          refine v_if_ne (pc := 58) (tgt := 63) K dX11_quarrel_58 (by decide) hF (fun c39 hF => ?_) (fun c39 hF => ?_)
          · refine v_aload_n (pc := 63) K dX11_quarrel_63 0 rfl ?_
            refine gX11_book (pc := 64) K hy (by decide) jn_X11 (List.mem_cons_of_mem _ jl_X11_37) dX11_quarrel_64 ?_
            refine v_iload_n (pc := 67) K dX11_quarrel_67 1 rfl ?_
            refine v_iload_n (pc := 68) K dX11_quarrel_68 2 rfl ?_
            refine v_iload_n (pc := 69) K dX11_quarrel_69 3 rfl ?_
            obtain ⟨r23, M24, hc22, hF⟩ := q_bE hF
            refine v_callV (pc := 70) (ci := 1) (As := [.int x1, .int x2, .int x3]) (rest := []) (st' := [.int r23]) (r := some (.int r23)) (M1 := M24) K (kX1_addQuarrel l K.2.2.2.2.2.2.1 hy (by decide) hc22) (jg_V jl_X11_154 jw_i_X1_addQuarrel jw_s_X1_addQuarrel jw_n_X1 jw_c_X1_addQuarrel) rfl rfl rfl jd_X1_addQuarrel ⟨Nat.le_of_ble_eq_true rfl, Nat.le_of_ble_eq_true rfl⟩ rfl rfl (Nat.le_of_ble_eq_true rfl) (by decide) (okc_0 hy (by decide)) rfl dX11_quarrel_70 rfl ?_
            refine v_istore (pc := 73) (lv' := [(5, .int r23), (0, .ref (ly_o y 0)), (1, .int x1), (2, .int x2), (3, .int x3), (4, .int x4)]) K 5 dX11_quarrel_73 (by decide) rfl ?_
            refine v_aload_n (pc := 75) K dX11_quarrel_75 1 rfl ?_
            refine gX11_book (pc := 76) K hy (by decide) jn_X11 (List.mem_cons_of_mem _ jl_X11_37) dX11_quarrel_76 ?_
            refine v_iload (pc := 79) K dX11_quarrel_79 0 rfl ?_
            obtain ⟨r26, M27, hc25, hF⟩ := q_bE hF
            cases r26 with
            | none =>
              refine v_callV (pc := 81) (ci := 1) (As := [.int r23]) (rest := []) (st' := [.null]) (r := some .null) (M1 := M27) K (kX1_quarrelAt l K.2.2.2.2.2.2.1 hy (by decide) hc25) (jg_V jl_X11_157 jw_i_X1_quarrelAt jw_s_X1_quarrelAt jw_n_X1 jw_c_X1_quarrelAt) rfl rfl rfl jd_X1_quarrelAt ⟨Nat.le_of_ble_eq_true rfl, Nat.le_of_ble_eq_true rfl⟩ rfl rfl (Nat.le_of_ble_eq_true rfl) (by decide) (okc_0 hy (by decide)) rfl dX11_quarrel_81 rfl ?_
              refine v_astoreN (pc := 84) (lv' := [(6, .null), (5, .int r23), (0, .ref (ly_o y 0)), (1, .int x1), (2, .int x2), (3, .int x3), (4, .int x4)]) K 6 dX11_quarrel_84 (by decide) rfl ?_
              refine v_aloadN (pc := 86) K dX11_quarrel_86 0 rfl ?_
              refine v_ifnonnullN (pc := 88) K dX11_quarrel_88 ?_
              refine v_iconst (pc := 91) (v := -1) K dX11_quarrel_91 rfl ?_
              have hz := (Option.some.inj hF).symm
              subst hz
              exact v_iret (pc := 92) K hQ dX11_quarrel_92
            | some o28 =>
              obtain ⟨ho29, hF⟩ := q_kE hF
              refine v_callV (pc := 81) (ci := 1) (As := [.int r23]) (rest := []) (st' := [.ref (ly_o y o28)]) (r := some (.ref (ly_o y o28))) (M1 := M27) K (kX1_quarrelAt l K.2.2.2.2.2.2.1 hy (by decide) hc25) (jg_V jl_X11_157 jw_i_X1_quarrelAt jw_s_X1_quarrelAt jw_n_X1 jw_c_X1_quarrelAt) rfl rfl rfl jd_X1_quarrelAt ⟨Nat.le_of_ble_eq_true rfl, Nat.le_of_ble_eq_true rfl⟩ rfl rfl (Nat.le_of_ble_eq_true rfl) (by decide) (okc_0 hy (by decide)) rfl dX11_quarrel_81 rfl ?_
              refine v_astore (pc := 84) (lv' := [(6, .ref (ly_o y o28)), (5, .int r23), (0, .ref (ly_o y 0)), (1, .int x1), (2, .int x2), (3, .int x3), (4, .int x4)]) K 6 dX11_quarrel_84 (by decide) rfl ?_
              refine v_aload (pc := 86) K dX11_quarrel_86 0 rfl ?_
              refine v_ifnonnull (pc := 88) (tgt := 93) K dX11_quarrel_88 (by decide) ?_
              refine v_aload_n (pc := 93) K dX11_quarrel_93 2 rfl ?_
              refine v_aload (pc := 94) K dX11_quarrel_94 0 rfl ?_
              obtain ⟨M32, hc30, hF⟩ := q_bvE hF
              refine v_callV (pc := 96) (ci := 10) (As := [.ref (ly_o y o28)]) (rest := []) (st' := []) (r := none) (M1 := M32) K (kX11_study l K.2.2.2.2.2.2.1 hy ho29 hc30) (jg_V jl_X11_161 jw_i_X11_study jw_s_X11_study jw_n_X11 jw_c_X11_study) rfl rfl rfl jd_X11_study ⟨Nat.le_of_ble_eq_true rfl, Nat.le_of_ble_eq_true rfl⟩ rfl rfl (Nat.le_of_ble_eq_true rfl) (by decide) (okc_0 hy (by decide)) rfl dX11_quarrel_96 rfl ?_
              refine v_aload (pc := 99) K dX11_quarrel_99 0 rfl ?_
              refine v_iload (pc := 101) K dX11_quarrel_101 6 rfl ?_
              refine v_aload_n (pc := 103) K dX11_quarrel_103 2 rfl ?_
              refine gX11_affair (pc := 104) K hy (by decide) jn_X11 (List.mem_cons_of_mem _ jl_X11_55) dX11_quarrel_104 ?_
              refine v_iload (pc := 107) K dX11_quarrel_107 6 rfl ?_
              refine v_iconst (pc := 109) (v := 1) K dX11_quarrel_109 rfl ?_
              obtain ⟨r34, M35, hc33, hF⟩ := q_bE hF
              refine v_callV (pc := 110) (ci := 0) (As := [.int x4, .int (1 : Int32)]) (rest := [.int x4, .ref (ly_o y o28)]) (st' := [.int r34, .int x4, .ref (ly_o y o28)]) (r := some (.int r34)) (M1 := M35) K (kX0_open l K.2.2.2.2.2.2.1 hy hc33) (jg_V jl_X11_165 jw_i_X0_open jw_s_X0_open jw_n_X0 jw_c_X0_open) rfl rfl rfl jd_X0_open ⟨Nat.le_of_ble_eq_true rfl, Nat.le_of_ble_eq_true rfl⟩ rfl rfl (Nat.le_of_ble_eq_true rfl) (by decide) (okc_0 hy (by decide)) rfl dX11_quarrel_110 rfl ?_
              obtain ⟨M38, hc36, hF⟩ := q_bvE hF
              refine v_callV (pc := 113) (ci := 4) (As := [.int x4, .int r34]) (rest := []) (st' := []) (r := none) (M1 := M38) K (kX4_add l K.2.2.2.2.2.2.1 hy ho29 hc36) (jg_V jl_X11_169 jw_i_X4_add jw_s_X4_add jw_n_X4 jw_c_X4_add) rfl rfl rfl jd_X4_add ⟨Nat.le_of_ble_eq_true rfl, Nat.le_of_ble_eq_true rfl⟩ rfl rfl (Nat.le_of_ble_eq_true rfl) ho29 (okc_0 hy (by decide)) rfl dX11_quarrel_113 rfl ?_
              refine v_iload (pc := 116) K dX11_quarrel_116 1 rfl ?_
              have hz := (Option.some.inj hF).symm
              subst hz
              exact v_iret (pc := 118) K hQ dX11_quarrel_118
          · refine v_iconst (pc := 61) (v := -1) K dX11_quarrel_61 rfl ?_
            have hz := (Option.some.inj hF).symm
            subst hz
            exact v_iret (pc := 62) K hQ dX11_quarrel_62
      · refine v_iconst (pc := 29) (v := -1) K dX11_quarrel_29 rfl ?_
        have hz := (Option.some.inj hF).symm
        subst hz
        exact v_iret (pc := 30) K hQ dX11_quarrel_30
set_option maxRecDepth 100000 in
set_option maxHeartbeats 4000000 in
theorem kX11_quarrel (l : Launch) {y : Ly} (hJ : ly_J y) (hy : y.2.2.2.2 = 0) {M M1 : QM} {r : Int32} {x1 : Int32} {x2 : Int32} {x3 : Int32} {x4 : Int32} (hF : fX11_quarrel M x1 x2 x3 x4 = some (r, M1)) : Met l yX11_quarrel wqX11_quarrel rmX11_quarrel (q_P y [.ref (ly_o y 0), .int x1, .int x2, .int x3, .int x4] M) (q_E y (some (.int r)) M1) 0 0 (ly_A y) :=
  q_met (by decide) rfl hJ rfl rfl rfl (fun x K hQ => bX11_quarrel_0 l K hy (z := (r, M1)) hQ  hF)
-- ===== X11_state (II)I
theorem jd_X11_state : yX11_state.cls = RX11 ∧ yX11_state.cls ≠ "java/lang/invoke/MethodHandle" ∧ yX11_state.cls ≠ "java/lang/invoke/VarHandle" ∧ (parseMethodDescriptor yX11_state.desc).map (fun d => d.parameters.length) = some 2 := by decide +kernel
abbrev wqX11_state : List Cond := .code yX11_state cX11_state 5 (some .int) :: wsL_law
abbrev rmX11_state : Room := { frames := 2, cells := 0, slots := 0, locals := 41 }
def fX11_state (M : QM) (x1 : Int32) (x2 : Int32) : Option (Int32 × QM) := (q_b (fX1_quarrelAt M 20 x1) fun r2 M3 => q_o r2 (some ((-1 : Int32), M3)) fun o4 => (if kls o4 = 4 then (q_b (fX4_now M3 o4) fun r7 M8 => if x2 = (0 : Int32) then (q_b (fX7_ending M8 r7) fun r11 M12 => some (r11, M12)) else if x2 = (1 : Int32) then (q_b (fX7_less M8 r7) fun r15 M16 => some (r15, M16)) else if x2 = (2 : Int32) then (q_b (fX7_owed M8 r7 (0 : Int32)) fun r19 M20 => some (r19, M20)) else if x2 = (3 : Int32) then (q_b (fX7_owed M8 r7 (1 : Int32)) fun r23 M24 => some (r23, M24)) else if x2 = (4 : Int32) then (q_b (fX7_ending M8 r7) fun r27 M28 => if r27 ≠ (0 : Int32) then some ((-1 : Int32), M28) else (q_b (fX7_turn M28 r7) fun r30 M31 => some (r30, M31))) else if x2 = (5 : Int32) then (q_b (fX7_asked M8 r7) fun r35 M36 => some (r35 - (1 : Int32), M36)) else if x2 = (6 : Int32) then (q_b (fX7_left M8 r7) fun r39 M40 => some (r39, M40)) else if x2 = (7 : Int32) then some (q_i M8 o4 7, M8) else some ((-1 : Int32), M8)) else none))
set_option maxRecDepth 100000 in
set_option maxHeartbeats 4000000 in
theorem bX11_state_0 {x : Cx} {y : Ly} (l : Launch) (K : VK x l rmX11_state y 5 cX11_state RX11 wqX11_state) (hy : y.2.2.2.2 = 0) {z : Int32 × QM} (hQ : VQ x y (some (.int z.1)) z.2 (some .int)) {M : QM} {x1 : Int32} {x2 : Int32} (hF : fX11_state M x1 x2 = some z) : V x y 5 M 0 [(0, .ref (ly_o y 0)), (1, .int x1), (2, .int x2)] [] := by
  unfold fX11_state at hF
  refine v_aload_n (pc := 0) K dX11_state_0 0 rfl ?_
  refine gX11_book (pc := 1) K hy (by decide) jn_X11 (List.mem_cons_of_mem _ jl_X11_37) dX11_state_1 ?_
  refine v_iload_n (pc := 4) K dX11_state_4 1 rfl ?_
  obtain ⟨r2, M3, hc1, hF⟩ := q_bE hF
  cases r2 with
  | none =>
    refine v_callV (pc := 5) (ci := 1) (As := [.int x1]) (rest := []) (st' := [.null]) (r := some .null) (M1 := M3) K (kX1_quarrelAt l K.2.2.2.2.2.2.1 hy (by decide) hc1) (jg_V jl_X11_157 jw_i_X1_quarrelAt jw_s_X1_quarrelAt jw_n_X1 jw_c_X1_quarrelAt) rfl rfl rfl jd_X1_quarrelAt ⟨Nat.le_of_ble_eq_true rfl, Nat.le_of_ble_eq_true rfl⟩ rfl rfl (Nat.le_of_ble_eq_true rfl) (by decide) (okc_0 hy (by decide)) rfl dX11_state_5 rfl ?_
    refine v_astore_nN (pc := 8) (lv' := [(3, .null), (0, .ref (ly_o y 0)), (1, .int x1), (2, .int x2)]) K dX11_state_8 3 rfl (by decide) rfl ?_
    refine v_aload_nN (pc := 9) K dX11_state_9 0 rfl ?_
    refine v_ifnonnullN (pc := 10) K dX11_state_10 ?_
    refine v_iconst (pc := 13) (v := -1) K dX11_state_13 rfl ?_
    have hz := (Option.some.inj hF).symm
    subst hz
    exact v_iret (pc := 14) K hQ dX11_state_14
  | some o4 =>
    obtain ⟨ho5, hF⟩ := q_kE hF
    refine v_callV (pc := 5) (ci := 1) (As := [.int x1]) (rest := []) (st' := [.ref (ly_o y o4)]) (r := some (.ref (ly_o y o4))) (M1 := M3) K (kX1_quarrelAt l K.2.2.2.2.2.2.1 hy (by decide) hc1) (jg_V jl_X11_157 jw_i_X1_quarrelAt jw_s_X1_quarrelAt jw_n_X1 jw_c_X1_quarrelAt) rfl rfl rfl jd_X1_quarrelAt ⟨Nat.le_of_ble_eq_true rfl, Nat.le_of_ble_eq_true rfl⟩ rfl rfl (Nat.le_of_ble_eq_true rfl) (by decide) (okc_0 hy (by decide)) rfl dX11_state_5 rfl ?_
    refine v_astore_n (pc := 8) (lv' := [(3, .ref (ly_o y o4)), (0, .ref (ly_o y 0)), (1, .int x1), (2, .int x2)]) K dX11_state_8 3 rfl (by decide) rfl ?_
    refine v_aload_n (pc := 9) K dX11_state_9 0 rfl ?_
    refine v_ifnonnull (pc := 10) (tgt := 15) K dX11_state_10 (by decide) ?_
    refine v_aload_n (pc := 15) K dX11_state_15 0 rfl ?_
    obtain ⟨r7, M8, hc6, hF⟩ := q_bE hF
    refine v_callV (pc := 16) (ci := 4) (As := []) (rest := []) (st' := [.int r7]) (r := some (.int r7)) (M1 := M8) K (kX4_now l K.2.2.2.2.2.2.1 hy ho5 hc6) (jg_V jl_X11_173 jw_i_X4_now jw_s_X4_now jw_n_X4 jw_c_X4_now) rfl rfl rfl jd_X4_now ⟨Nat.le_of_ble_eq_true rfl, Nat.le_of_ble_eq_true rfl⟩ rfl rfl (Nat.le_of_ble_eq_true rfl) ho5 (okc_0 hy (by decide)) rfl dX11_state_16 rfl ?_
    refine v_istore (pc := 19) (lv' := [(4, .int r7), (3, .ref (ly_o y o4)), (0, .ref (ly_o y 0)), (1, .int x1), (2, .int x2)]) K 4 dX11_state_19 (by decide) rfl ?_
    refine v_iload_n (pc := 21) K dX11_state_21 4 rfl ?_
    rcases q_iE hF with ⟨c9, hF⟩ | ⟨c9, hF⟩
    · refine v_tabE (pc := 22) (tgt := 68) (off := 46) K c9 dX11_state_22 (by decide) (by decide) (by decide +kernel) (by decide) ?_
      refine v_iload (pc := 68) K dX11_state_68 0 rfl ?_
      obtain ⟨r11, M12, hc10, hF⟩ := q_bE hF
      refine v_callS (pc := 70) (As := [.int r7]) (rest := []) (st' := [.int r11]) (r := some (.int r11)) (M1 := M12) K (kX7_ending l K.2.2.2.2.2.2.1 hy hc10) (jg_S jl_X11_177 jw_t_X7_ending jw_n_X7 jw_c_X7_ending) rfl rfl rfl jd_X7_ending ⟨Nat.le_of_ble_eq_true rfl, Nat.le_of_ble_eq_true rfl⟩ rfl rfl (Nat.le_of_ble_eq_true rfl) dX11_state_70 rfl ?_
      have hz := (Option.some.inj hF).symm
      subst hz
      exact v_iret (pc := 73) K hQ dX11_state_73
    rcases q_iE hF with ⟨c13, hF⟩ | ⟨c13, hF⟩
    · refine v_tabE (pc := 22) (tgt := 74) (off := 52) K c13 dX11_state_22 (by decide) (by decide) (by decide +kernel) (by decide) ?_
      refine v_iload (pc := 74) K dX11_state_74 0 rfl ?_
      obtain ⟨r15, M16, hc14, hF⟩ := q_bE hF
      refine v_callS (pc := 76) (As := [.int r7]) (rest := []) (st' := [.int r15]) (r := some (.int r15)) (M1 := M16) K (kX7_less l K.2.2.2.2.2.2.1 hy hc14) (jg_S jl_X11_182 jw_t_X7_less jw_n_X7 jw_c_X7_less) rfl rfl rfl jd_X7_less ⟨Nat.le_of_ble_eq_true rfl, Nat.le_of_ble_eq_true rfl⟩ rfl rfl (Nat.le_of_ble_eq_true rfl) dX11_state_76 rfl ?_
      have hz := (Option.some.inj hF).symm
      subst hz
      exact v_iret (pc := 79) K hQ dX11_state_79
    rcases q_iE hF with ⟨c17, hF⟩ | ⟨c17, hF⟩
    · refine v_tabE (pc := 22) (tgt := 80) (off := 58) K c17 dX11_state_22 (by decide) (by decide) (by decide +kernel) (by decide) ?_
      refine v_iload (pc := 80) K dX11_state_80 0 rfl ?_
      refine v_iconst (pc := 82) (v := 0) K dX11_state_82 rfl ?_
      obtain ⟨r19, M20, hc18, hF⟩ := q_bE hF
      refine v_callS (pc := 83) (As := [.int r7, .int (0 : Int32)]) (rest := []) (st' := [.int r19]) (r := some (.int r19)) (M1 := M20) K (kX7_owed l K.2.2.2.2.2.2.1 hy hc18) (jg_S jl_X11_185 jw_t_X7_owed jw_n_X7 jw_c_X7_owed) rfl rfl rfl jd_X7_owed ⟨Nat.le_of_ble_eq_true rfl, Nat.le_of_ble_eq_true rfl⟩ rfl rfl (Nat.le_of_ble_eq_true rfl) dX11_state_83 rfl ?_
      have hz := (Option.some.inj hF).symm
      subst hz
      exact v_iret (pc := 86) K hQ dX11_state_86
    rcases q_iE hF with ⟨c21, hF⟩ | ⟨c21, hF⟩
    · refine v_tabE (pc := 22) (tgt := 87) (off := 65) K c21 dX11_state_22 (by decide) (by decide) (by decide +kernel) (by decide) ?_
      refine v_iload (pc := 87) K dX11_state_87 0 rfl ?_
      refine v_iconst (pc := 89) (v := 1) K dX11_state_89 rfl ?_
      obtain ⟨r23, M24, hc22, hF⟩ := q_bE hF
      refine v_callS (pc := 90) (As := [.int r7, .int (1 : Int32)]) (rest := []) (st' := [.int r23]) (r := some (.int r23)) (M1 := M24) K (kX7_owed l K.2.2.2.2.2.2.1 hy hc22) (jg_S jl_X11_185 jw_t_X7_owed jw_n_X7 jw_c_X7_owed) rfl rfl rfl jd_X7_owed ⟨Nat.le_of_ble_eq_true rfl, Nat.le_of_ble_eq_true rfl⟩ rfl rfl (Nat.le_of_ble_eq_true rfl) dX11_state_90 rfl ?_
      have hz := (Option.some.inj hF).symm
      subst hz
      exact v_iret (pc := 93) K hQ dX11_state_93
    rcases q_iE hF with ⟨c25, hF⟩ | ⟨c25, hF⟩
    · refine v_tabE (pc := 22) (tgt := 94) (off := 72) K c25 dX11_state_22 (by decide) (by decide) (by decide +kernel) (by decide) ?_
      refine v_iload (pc := 94) K dX11_state_94 0 rfl ?_
      obtain ⟨r27, M28, hc26, hF⟩ := q_bE hF
      refine v_callS (pc := 96) (As := [.int r7]) (rest := []) (st' := [.int r27]) (r := some (.int r27)) (M1 := M28) K (kX7_ending l K.2.2.2.2.2.2.1 hy hc26) (jg_S jl_X11_177 jw_t_X7_ending jw_n_X7 jw_c_X7_ending) rfl rfl rfl jd_X7_ending ⟨Nat.le_of_ble_eq_true rfl, Nat.le_of_ble_eq_true rfl⟩ rfl rfl (Nat.le_of_ble_eq_true rfl) dX11_state_96 rfl ?_
      refine v_if_ne (pc := 99) (tgt := 110) K dX11_state_99 (by decide) hF (fun c32 hF => ?_) (fun c32 hF => ?_)
      · refine v_iconst (pc := 110) (v := -1) K dX11_state_110 rfl ?_
        have hz := (Option.some.inj hF).symm
        subst hz
        exact v_iret (pc := 111) K hQ dX11_state_111
      · refine v_iload (pc := 102) K dX11_state_102 0 rfl ?_
        obtain ⟨r30, M31, hc29, hF⟩ := q_bE hF
        refine v_callS (pc := 104) (As := [.int r7]) (rest := []) (st' := [.int r30]) (r := some (.int r30)) (M1 := M31) K (kX7_turn l K.2.2.2.2.2.2.1 hy hc29) (jg_S jl_X11_189 jw_t_X7_turn jw_n_X7 jw_c_X7_turn) rfl rfl rfl jd_X7_turn ⟨Nat.le_of_ble_eq_true rfl, Nat.le_of_ble_eq_true rfl⟩ rfl rfl (Nat.le_of_ble_eq_true rfl) dX11_state_104 rfl ?_
        refine v_goto (pc := 107) (tgt := 111) K dX11_state_107 (by decide) ?_
        have hz := (Option.some.inj hF).symm
        subst hz
        exact v_iret (pc := 111) K hQ dX11_state_111
    rcases q_iE hF with ⟨c33, hF⟩ | ⟨c33, hF⟩
    · refine v_tabE (pc := 22) (tgt := 112) (off := 90) K c33 dX11_state_22 (by decide) (by decide) (by decide +kernel) (by decide) ?_
      refine v_iload (pc := 112) K dX11_state_112 0 rfl ?_
      obtain ⟨r35, M36, hc34, hF⟩ := q_bE hF
      refine v_callS (pc := 114) (As := [.int r7]) (rest := []) (st' := [.int r35]) (r := some (.int r35)) (M1 := M36) K (kX7_asked l K.2.2.2.2.2.2.1 hy hc34) (jg_S jl_X11_192 jw_t_X7_asked jw_n_X7 jw_c_X7_asked) rfl rfl rfl jd_X7_asked ⟨Nat.le_of_ble_eq_true rfl, Nat.le_of_ble_eq_true rfl⟩ rfl rfl (Nat.le_of_ble_eq_true rfl) dX11_state_114 rfl ?_
      refine v_iconst (pc := 117) (v := 1) K dX11_state_117 rfl ?_
      refine v_isub (pc := 118) K dX11_state_118 ?_
      have hz := (Option.some.inj hF).symm
      subst hz
      exact v_iret (pc := 119) K hQ dX11_state_119
    rcases q_iE hF with ⟨c37, hF⟩ | ⟨c37, hF⟩
    · refine v_tabE (pc := 22) (tgt := 120) (off := 98) K c37 dX11_state_22 (by decide) (by decide) (by decide +kernel) (by decide) ?_
      refine v_iload (pc := 120) K dX11_state_120 0 rfl ?_
      obtain ⟨r39, M40, hc38, hF⟩ := q_bE hF
      refine v_callS (pc := 122) (As := [.int r7]) (rest := []) (st' := [.int r39]) (r := some (.int r39)) (M1 := M40) K (kX7_left l K.2.2.2.2.2.2.1 hy hc38) (jg_S jl_X11_195 jw_t_X7_left jw_n_X7 jw_c_X7_left) rfl rfl rfl jd_X7_left ⟨Nat.le_of_ble_eq_true rfl, Nat.le_of_ble_eq_true rfl⟩ rfl rfl (Nat.le_of_ble_eq_true rfl) dX11_state_122 rfl ?_
      have hz := (Option.some.inj hF).symm
      subst hz
      exact v_iret (pc := 125) K hQ dX11_state_125
    rcases q_iE hF with ⟨c41, hF⟩ | ⟨c41, hF⟩
    · refine v_tabE (pc := 22) (tgt := 126) (off := 104) K c41 dX11_state_22 (by decide) (by decide) (by decide +kernel) (by decide) ?_
      refine v_aload_n (pc := 126) K dX11_state_126 1 rfl ?_
      refine gX4_done (pc := 127) K hy ho5 jn_X4 (List.mem_cons_of_mem _ jl_X11_198) dX11_state_127 ?_
      have hz := (Option.some.inj hF).symm
      subst hz
      exact v_iret (pc := 130) K hQ dX11_state_130
    refine v_tabN (pc := 22) (tgt := 131) K dX11_state_22 (q_tn_0_7 c9 c13 c17 c21 c25 c33 c37 c41) (by decide) ?_
    refine v_iconst (pc := 131) (v := -1) K dX11_state_131 rfl ?_
    have hz := (Option.some.inj hF).symm
    subst hz
    exact v_iret (pc := 132) K hQ dX11_state_132
set_option maxRecDepth 100000 in
set_option maxHeartbeats 4000000 in
theorem kX11_state (l : Launch) {y : Ly} (hJ : ly_J y) (hy : y.2.2.2.2 = 0) {M M1 : QM} {r : Int32} {x1 : Int32} {x2 : Int32} (hF : fX11_state M x1 x2 = some (r, M1)) : Met l yX11_state wqX11_state rmX11_state (q_P y [.ref (ly_o y 0), .int x1, .int x2] M) (q_E y (some (.int r)) M1) 0 0 (ly_A y) :=
  q_met (by decide) rfl hJ rfl rfl rfl (fun x K hQ => bX11_state_0 l K hy (z := (r, M1)) hQ  hF)
-- ===== X11_may (I)I
theorem jd_X11_may : yX11_may.cls = RX11 ∧ yX11_may.cls ≠ "java/lang/invoke/MethodHandle" ∧ yX11_may.cls ≠ "java/lang/invoke/VarHandle" ∧ (parseMethodDescriptor yX11_may.desc).map (fun d => d.parameters.length) = some 1 := by decide +kernel
abbrev wqX11_may : List Cond := .code yX11_may cX11_may 6 (some .int) :: wsL_law
abbrev rmX11_may : Room := { frames := 5, cells := 0, slots := 0, locals := 114 }
def fX11_may_b60 (k31 : QM → Int32 → Int32 → Int32 → Option (Int32 × QM)) (M : QM) (x3 : Int32) (x4 : Int32) (x5 : Int32) : Option (Int32 × QM) := (k31 M x3 x4 (x5 + (1 : Int32)))
set_option maxRecDepth 100000 in
set_option maxHeartbeats 4000000 in
theorem bX11_may_60 {x : Cx} {y : Ly} (l : Launch) (K : VK x l rmX11_may y 6 cX11_may RX11 wqX11_may) (hy : y.2.2.2.2 = 0) {z : Int32 × QM} (hQ : VQ x y (some (.int z.1)) z.2 (some .int)) {k31 : QM → Int32 → Int32 → Int32 → Option (Int32 × QM)} (hk31 : ∀ {M : QM} {x3 : Int32} {x4 : Int32} {x5 : Int32}, k31 M x3 x4 x5 = some z → V x y 6 M 31 [(0, .ref (ly_o y 0)), (3, .int x3), (4, .int x4), (5, .int x5)] []) {M : QM} {x3 : Int32} {x4 : Int32} {x5 : Int32} (hF : fX11_may_b60 k31 M x3 x4 x5 = some z) : V x y 6 M 60 [(0, .ref (ly_o y 0)), (3, .int x3), (4, .int x4), (5, .int x5)] [] := by
  unfold fX11_may_b60 at hF
  refine v_iinc (pc := 60) (v1 := x5 + (1 : Int32)) (lv' := [(5, .int (x5 + (1 : Int32))), (0, .ref (ly_o y 0)), (3, .int x3), (4, .int x4)]) K dX11_may_60 3 rfl rfl (by decide) rfl ?_
  refine v_goto (pc := 63) (tgt := 31) K dX11_may_63 (by decide) ?_
  refine v_sub [1, 2, 3, 0] rfl ?_
  exact hk31 hF
def fX11_may_b31 : Nat → QM → Int32 → Int32 → Int32 → Option (Int32 × QM)
  | 0, _, _, _, _ => none
  | q + 1, M, x3, x4, x5 => if (11 : Int32) ≤ x5 then some (x4, M) else (q_b (fX0_allows M x3 x5) fun r13 M14 => if r13 = (0 : Int32) then (fX11_may_b60 (fun M x3 x4 x5 => fX11_may_b31 q M x3 x4 x5) M14 x3 x4 x5) else (fX11_may_b60 (fun M x3 x4 x5 => fX11_may_b31 q M x3 x4 x5) M14 x3 (x4 ||| ((1 : Int32) <<< (x5 &&& (31 : Int32)))) x5))
set_option maxRecDepth 100000 in
set_option maxHeartbeats 4000000 in
theorem bX11_may_31 {x : Cx} {y : Ly} (l : Launch) (K : VK x l rmX11_may y 6 cX11_may RX11 wqX11_may) (hy : y.2.2.2.2 = 0) {z : Int32 × QM} (hQ : VQ x y (some (.int z.1)) z.2 (some .int)) : ∀ (q : Nat) {M : QM} {x3 : Int32} {x4 : Int32} {x5 : Int32},  fX11_may_b31 q M x3 x4 x5 = some z → V x y 6 M 31 [(0, .ref (ly_o y 0)), (3, .int x3), (4, .int x4), (5, .int x5)] [] := by
  intro q
  induction q with
  | zero =>
    intro M x3 x4 x5  hF
    rw [fX11_may_b31] at hF
    cases hF
  | succ q ih =>
    intro M x3 x4 x5  hF
    rw [fX11_may_b31] at hF
    refine v_iload (pc := 31) K dX11_may_31 3 rfl ?_
    refine v_bipush (pc := 33) (v := 11) K dX11_may_33 rfl ?_
    refine v_icmp_ge (pc := 35) (tgt := 66) K dX11_may_35 (by decide) hF (fun c16 hF => ?_) (fun c16 hF => ?_)
    · refine v_iload (pc := 66) K dX11_may_66 2 rfl ?_
      have hz := (Option.some.inj hF).symm
      subst hz
      exact v_iret (pc := 68) K hQ dX11_may_68
    · refine v_aload_n (pc := 38) K dX11_may_38 0 rfl ?_
      refine gX11_affair (pc := 39) K hy (by decide) jn_X11 (List.mem_cons_of_mem _ jl_X11_55) dX11_may_39 ?_
      refine v_iload_n (pc := 42) K dX11_may_42 1 rfl ?_
      refine v_iload (pc := 43) K dX11_may_43 3 rfl ?_
      obtain ⟨r13, M14, hc12, hF⟩ := q_bE hF
      refine v_callV (pc := 45) (ci := 0) (As := [.int x3, .int x5]) (rest := []) (st' := [.int r13]) (r := some (.int r13)) (M1 := M14) K (kX0_allows l K.2.2.2.2.2.2.1 hy hc12) (jg_V jl_X11_201 jw_i_X0_allows jw_s_X0_allows jw_n_X0 jw_c_X0_allows) rfl rfl rfl jd_X0_allows ⟨Nat.le_of_ble_eq_true rfl, Nat.le_of_ble_eq_true rfl⟩ rfl rfl (Nat.le_of_ble_eq_true rfl) (by decide) (okc_0 hy (by decide)) rfl dX11_may_45 rfl ?_
      refine v_if_eq (pc := 48) (tgt := 60) K dX11_may_48 (by decide) hF (fun c15 hF => ?_) (fun c15 hF => ?_)
      · exact bX11_may_60 l K hy hQ ih hF
      · refine v_iload (pc := 51) K dX11_may_51 2 rfl ?_
        refine v_iconst (pc := 53) (v := 1) K dX11_may_53 rfl ?_
        refine v_iload (pc := 54) K dX11_may_54 3 rfl ?_
        refine v_ishl (pc := 56) K dX11_may_56 ?_
        refine v_ior (pc := 57) K dX11_may_57 ?_
        refine v_istore (pc := 58) (lv' := [(4, .int (x4 ||| ((1 : Int32) <<< (x5 &&& (31 : Int32))))), (0, .ref (ly_o y 0)), (3, .int x3), (5, .int x5)]) K 4 dX11_may_58 (by decide) rfl ?_
        refine v_sub [1, 2, 0, 3] rfl ?_
        exact bX11_may_60 l K hy hQ ih hF
def fX11_may (M : QM) (x1 : Int32) : Option (Int32 × QM) := (q_b (fX1_quarrelAt M 20 x1) fun r2 M3 => q_o r2 (some ((-1 : Int32), M3)) fun o4 => (if kls o4 = 4 then (q_bv (fX11_study M3 o4) fun M8 => (q_b (fX4_now M8 o4) fun r10 M11 => (fX11_may_b31 q_F M11 r10 (0 : Int32) (0 : Int32)))) else none))
set_option maxRecDepth 100000 in
set_option maxHeartbeats 4000000 in
theorem bX11_may_0 {x : Cx} {y : Ly} (l : Launch) (K : VK x l rmX11_may y 6 cX11_may RX11 wqX11_may) (hy : y.2.2.2.2 = 0) {z : Int32 × QM} (hQ : VQ x y (some (.int z.1)) z.2 (some .int)) {M : QM} {x1 : Int32} (hF : fX11_may M x1 = some z) : V x y 6 M 0 [(0, .ref (ly_o y 0)), (1, .int x1)] [] := by
  unfold fX11_may at hF
  refine v_aload_n (pc := 0) K dX11_may_0 0 rfl ?_
  refine gX11_book (pc := 1) K hy (by decide) jn_X11 (List.mem_cons_of_mem _ jl_X11_37) dX11_may_1 ?_
  refine v_iload_n (pc := 4) K dX11_may_4 1 rfl ?_
  obtain ⟨r2, M3, hc1, hF⟩ := q_bE hF
  cases r2 with
  | none =>
    refine v_callV (pc := 5) (ci := 1) (As := [.int x1]) (rest := []) (st' := [.null]) (r := some .null) (M1 := M3) K (kX1_quarrelAt l K.2.2.2.2.2.2.1 hy (by decide) hc1) (jg_V jl_X11_157 jw_i_X1_quarrelAt jw_s_X1_quarrelAt jw_n_X1 jw_c_X1_quarrelAt) rfl rfl rfl jd_X1_quarrelAt ⟨Nat.le_of_ble_eq_true rfl, Nat.le_of_ble_eq_true rfl⟩ rfl rfl (Nat.le_of_ble_eq_true rfl) (by decide) (okc_0 hy (by decide)) rfl dX11_may_5 rfl ?_
    refine v_astore_nN (pc := 8) (lv' := [(2, .null), (0, .ref (ly_o y 0)), (1, .int x1)]) K dX11_may_8 2 rfl (by decide) rfl ?_
    refine v_aload_nN (pc := 9) K dX11_may_9 0 rfl ?_
    refine v_ifnonnullN (pc := 10) K dX11_may_10 ?_
    refine v_iconst (pc := 13) (v := -1) K dX11_may_13 rfl ?_
    have hz := (Option.some.inj hF).symm
    subst hz
    exact v_iret (pc := 14) K hQ dX11_may_14
  | some o4 =>
    obtain ⟨ho5, hF⟩ := q_kE hF
    refine v_callV (pc := 5) (ci := 1) (As := [.int x1]) (rest := []) (st' := [.ref (ly_o y o4)]) (r := some (.ref (ly_o y o4))) (M1 := M3) K (kX1_quarrelAt l K.2.2.2.2.2.2.1 hy (by decide) hc1) (jg_V jl_X11_157 jw_i_X1_quarrelAt jw_s_X1_quarrelAt jw_n_X1 jw_c_X1_quarrelAt) rfl rfl rfl jd_X1_quarrelAt ⟨Nat.le_of_ble_eq_true rfl, Nat.le_of_ble_eq_true rfl⟩ rfl rfl (Nat.le_of_ble_eq_true rfl) (by decide) (okc_0 hy (by decide)) rfl dX11_may_5 rfl ?_
    refine v_astore_n (pc := 8) (lv' := [(2, .ref (ly_o y o4)), (0, .ref (ly_o y 0)), (1, .int x1)]) K dX11_may_8 2 rfl (by decide) rfl ?_
    refine v_aload_n (pc := 9) K dX11_may_9 0 rfl ?_
    refine v_ifnonnull (pc := 10) (tgt := 15) K dX11_may_10 (by decide) ?_
    refine v_aload_n (pc := 15) K dX11_may_15 1 rfl ?_
    refine v_aload_n (pc := 16) K dX11_may_16 0 rfl ?_
    obtain ⟨M8, hc6, hF⟩ := q_bvE hF
    refine v_callV (pc := 17) (ci := 10) (As := [.ref (ly_o y o4)]) (rest := []) (st' := []) (r := none) (M1 := M8) K (kX11_study l K.2.2.2.2.2.2.1 hy ho5 hc6) (jg_V jl_X11_161 jw_i_X11_study jw_s_X11_study jw_n_X11 jw_c_X11_study) rfl rfl rfl jd_X11_study ⟨Nat.le_of_ble_eq_true rfl, Nat.le_of_ble_eq_true rfl⟩ rfl rfl (Nat.le_of_ble_eq_true rfl) (by decide) (okc_0 hy (by decide)) rfl dX11_may_17 rfl ?_
    refine v_aload_n (pc := 20) K dX11_may_20 0 rfl ?_
    obtain ⟨r10, M11, hc9, hF⟩ := q_bE hF
    refine v_callV (pc := 21) (ci := 4) (As := []) (rest := []) (st' := [.int r10]) (r := some (.int r10)) (M1 := M11) K (kX4_now l K.2.2.2.2.2.2.1 hy ho5 hc9) (jg_V jl_X11_173 jw_i_X4_now jw_s_X4_now jw_n_X4 jw_c_X4_now) rfl rfl rfl jd_X4_now ⟨Nat.le_of_ble_eq_true rfl, Nat.le_of_ble_eq_true rfl⟩ rfl rfl (Nat.le_of_ble_eq_true rfl) ho5 (okc_0 hy (by decide)) rfl dX11_may_21 rfl ?_
    refine v_istore_n (pc := 24) (lv' := [(3, .int r10), (2, .ref (ly_o y o4)), (0, .ref (ly_o y 0)), (1, .int x1)]) K dX11_may_24 3 rfl (by decide) rfl ?_
    refine v_iconst (pc := 25) (v := 0) K dX11_may_25 rfl ?_
    refine v_istore (pc := 26) (lv' := [(4, .int (0 : Int32)), (3, .int r10), (2, .ref (ly_o y o4)), (0, .ref (ly_o y 0)), (1, .int x1)]) K 4 dX11_may_26 (by decide) rfl ?_
    refine v_iconst (pc := 28) (v := 0) K dX11_may_28 rfl ?_
    refine v_istore (pc := 29) (lv' := [(5, .int (0 : Int32)), (4, .int (0 : Int32)), (3, .int r10), (2, .ref (ly_o y o4)), (0, .ref (ly_o y 0)), (1, .int x1)]) K 5 dX11_may_29 (by decide) rfl ?_
    refine v_sub [4, 2, 1, 0] rfl ?_
    exact bX11_may_31 l K hy hQ q_F hF
set_option maxRecDepth 100000 in
set_option maxHeartbeats 4000000 in
theorem kX11_may (l : Launch) {y : Ly} (hJ : ly_J y) (hy : y.2.2.2.2 = 0) {M M1 : QM} {r : Int32} {x1 : Int32} (hF : fX11_may M x1 = some (r, M1)) : Met l yX11_may wqX11_may rmX11_may (q_P y [.ref (ly_o y 0), .int x1] M) (q_E y (some (.int r)) M1) 0 0 (ly_A y) :=
  q_met (by decide) rfl hJ rfl rfl rfl (fun x K hQ => bX11_may_0 l K hy (z := (r, M1)) hQ  hF)
-- ===== X11_move (II)I
theorem jd_X11_move : yX11_move.cls = RX11 ∧ yX11_move.cls ≠ "java/lang/invoke/MethodHandle" ∧ yX11_move.cls ≠ "java/lang/invoke/VarHandle" ∧ (parseMethodDescriptor yX11_move.desc).map (fun d => d.parameters.length) = some 2 := by decide +kernel
abbrev wqX11_move : List Cond := .code yX11_move cX11_move 5 (some .int) :: wsL_law
abbrev rmX11_move : Room := { frames := 5, cells := 0, slots := 0, locals := 129 }
def fX11_move (M : QM) (x1 : Int32) (x2 : Int32) : Option (Int32 × QM) := (q_b (fX1_quarrelAt M 20 x1) fun r2 M3 => q_o r2 (some ((-1 : Int32), M3)) fun o4 => (if kls o4 = 4 then (q_bv (fX11_study M3 o4) fun M8 => (q_b (fX4_now M8 o4) fun r10 M11 => (q_b (fX0_allows M11 r10 x2) fun r13 M14 => if r13 ≠ (0 : Int32) then (q_b (fX0_after M14 r10 x2 (1 : Int32)) fun r16 M17 => (q_bv (fX4_add M17 o4 x2 r16) fun M20 => (q_b (fX4_now M20 o4) fun r22 M23 => (q_b (fX7_ending M23 r22) fun r25 M26 => some (r25, M26))))) else some ((-1 : Int32), M14)))) else none))
set_option maxRecDepth 100000 in
set_option maxHeartbeats 4000000 in
theorem bX11_move_0 {x : Cx} {y : Ly} (l : Launch) (K : VK x l rmX11_move y 5 cX11_move RX11 wqX11_move) (hy : y.2.2.2.2 = 0) {z : Int32 × QM} (hQ : VQ x y (some (.int z.1)) z.2 (some .int)) {M : QM} {x1 : Int32} {x2 : Int32} (hF : fX11_move M x1 x2 = some z) : V x y 5 M 0 [(0, .ref (ly_o y 0)), (1, .int x1), (2, .int x2)] [] := by
  unfold fX11_move at hF
  refine v_aload_n (pc := 0) K dX11_move_0 0 rfl ?_
  refine gX11_book (pc := 1) K hy (by decide) jn_X11 (List.mem_cons_of_mem _ jl_X11_37) dX11_move_1 ?_
  refine v_iload_n (pc := 4) K dX11_move_4 1 rfl ?_
  obtain ⟨r2, M3, hc1, hF⟩ := q_bE hF
  cases r2 with
  | none =>
    refine v_callV (pc := 5) (ci := 1) (As := [.int x1]) (rest := []) (st' := [.null]) (r := some .null) (M1 := M3) K (kX1_quarrelAt l K.2.2.2.2.2.2.1 hy (by decide) hc1) (jg_V jl_X11_157 jw_i_X1_quarrelAt jw_s_X1_quarrelAt jw_n_X1 jw_c_X1_quarrelAt) rfl rfl rfl jd_X1_quarrelAt ⟨Nat.le_of_ble_eq_true rfl, Nat.le_of_ble_eq_true rfl⟩ rfl rfl (Nat.le_of_ble_eq_true rfl) (by decide) (okc_0 hy (by decide)) rfl dX11_move_5 rfl ?_
    refine v_astore_nN (pc := 8) (lv' := [(3, .null), (0, .ref (ly_o y 0)), (1, .int x1), (2, .int x2)]) K dX11_move_8 3 rfl (by decide) rfl ?_
    refine v_aload_nN (pc := 9) K dX11_move_9 0 rfl ?_
    refine v_ifnonnullN (pc := 10) K dX11_move_10 ?_
    refine v_iconst (pc := 13) (v := -1) K dX11_move_13 rfl ?_
    have hz := (Option.some.inj hF).symm
    subst hz
    exact v_iret (pc := 14) K hQ dX11_move_14
  | some o4 =>
    obtain ⟨ho5, hF⟩ := q_kE hF
    refine v_callV (pc := 5) (ci := 1) (As := [.int x1]) (rest := []) (st' := [.ref (ly_o y o4)]) (r := some (.ref (ly_o y o4))) (M1 := M3) K (kX1_quarrelAt l K.2.2.2.2.2.2.1 hy (by decide) hc1) (jg_V jl_X11_157 jw_i_X1_quarrelAt jw_s_X1_quarrelAt jw_n_X1 jw_c_X1_quarrelAt) rfl rfl rfl jd_X1_quarrelAt ⟨Nat.le_of_ble_eq_true rfl, Nat.le_of_ble_eq_true rfl⟩ rfl rfl (Nat.le_of_ble_eq_true rfl) (by decide) (okc_0 hy (by decide)) rfl dX11_move_5 rfl ?_
    refine v_astore_n (pc := 8) (lv' := [(3, .ref (ly_o y o4)), (0, .ref (ly_o y 0)), (1, .int x1), (2, .int x2)]) K dX11_move_8 3 rfl (by decide) rfl ?_
    refine v_aload_n (pc := 9) K dX11_move_9 0 rfl ?_
    refine v_ifnonnull (pc := 10) (tgt := 15) K dX11_move_10 (by decide) ?_
    refine v_aload_n (pc := 15) K dX11_move_15 1 rfl ?_
    refine v_aload_n (pc := 16) K dX11_move_16 0 rfl ?_
    obtain ⟨M8, hc6, hF⟩ := q_bvE hF
    refine v_callV (pc := 17) (ci := 10) (As := [.ref (ly_o y o4)]) (rest := []) (st' := []) (r := none) (M1 := M8) K (kX11_study l K.2.2.2.2.2.2.1 hy ho5 hc6) (jg_V jl_X11_161 jw_i_X11_study jw_s_X11_study jw_n_X11 jw_c_X11_study) rfl rfl rfl jd_X11_study ⟨Nat.le_of_ble_eq_true rfl, Nat.le_of_ble_eq_true rfl⟩ rfl rfl (Nat.le_of_ble_eq_true rfl) (by decide) (okc_0 hy (by decide)) rfl dX11_move_17 rfl ?_
    refine v_aload_n (pc := 20) K dX11_move_20 0 rfl ?_
    obtain ⟨r10, M11, hc9, hF⟩ := q_bE hF
    refine v_callV (pc := 21) (ci := 4) (As := []) (rest := []) (st' := [.int r10]) (r := some (.int r10)) (M1 := M11) K (kX4_now l K.2.2.2.2.2.2.1 hy ho5 hc9) (jg_V jl_X11_173 jw_i_X4_now jw_s_X4_now jw_n_X4 jw_c_X4_now) rfl rfl rfl jd_X4_now ⟨Nat.le_of_ble_eq_true rfl, Nat.le_of_ble_eq_true rfl⟩ rfl rfl (Nat.le_of_ble_eq_true rfl) ho5 (okc_0 hy (by decide)) rfl dX11_move_21 rfl ?_
    refine v_istore (pc := 24) (lv' := [(4, .int r10), (3, .ref (ly_o y o4)), (0, .ref (ly_o y 0)), (1, .int x1), (2, .int x2)]) K 4 dX11_move_24 (by decide) rfl ?_
    refine v_aload_n (pc := 26) K dX11_move_26 2 rfl ?_
    refine gX11_affair (pc := 27) K hy (by decide) jn_X11 (List.mem_cons_of_mem _ jl_X11_55) dX11_move_27 ?_
    refine v_iload (pc := 30) K dX11_move_30 0 rfl ?_
    refine v_iload_n (pc := 32) K dX11_move_32 4 rfl ?_
    obtain ⟨r13, M14, hc12, hF⟩ := q_bE hF
    refine v_callV (pc := 33) (ci := 0) (As := [.int r10, .int x2]) (rest := []) (st' := [.int r13]) (r := some (.int r13)) (M1 := M14) K (kX0_allows l K.2.2.2.2.2.2.1 hy hc12) (jg_V jl_X11_201 jw_i_X0_allows jw_s_X0_allows jw_n_X0 jw_c_X0_allows) rfl rfl rfl jd_X0_allows ⟨Nat.le_of_ble_eq_true rfl, Nat.le_of_ble_eq_true rfl⟩ rfl rfl (Nat.le_of_ble_eq_true rfl) (by decide) (okc_0 hy (by decide)) rfl dX11_move_33 rfl ?_
    refine v_if_ne (pc := 36) (tgt := 41) K dX11_move_36 (by decide) hF (fun c27 hF => ?_) (fun c27 hF => ?_)
    · refine v_aload_n (pc := 41) K dX11_move_41 1 rfl ?_
      refine v_iload_n (pc := 42) K dX11_move_42 4 rfl ?_
      refine v_aload_n (pc := 43) K dX11_move_43 2 rfl ?_
      refine gX11_affair (pc := 44) K hy (by decide) jn_X11 (List.mem_cons_of_mem _ jl_X11_55) dX11_move_44 ?_
      refine v_iload (pc := 47) K dX11_move_47 0 rfl ?_
      refine v_iload_n (pc := 49) K dX11_move_49 4 rfl ?_
      refine v_iconst (pc := 50) (v := 1) K dX11_move_50 rfl ?_
      obtain ⟨r16, M17, hc15, hF⟩ := q_bE hF
      refine v_callV (pc := 51) (ci := 0) (As := [.int r10, .int x2, .int (1 : Int32)]) (rest := [.int x2, .ref (ly_o y o4)]) (st' := [.int r16, .int x2, .ref (ly_o y o4)]) (r := some (.int r16)) (M1 := M17) K (kX0_after l K.2.2.2.2.2.2.1 hy hc15) (jg_V jl_X11_204 jw_i_X0_after jw_s_X0_after jw_n_X0 jw_c_X0_after) rfl rfl rfl jd_X0_after ⟨Nat.le_of_ble_eq_true rfl, Nat.le_of_ble_eq_true rfl⟩ rfl rfl (Nat.le_of_ble_eq_true rfl) (by decide) (okc_0 hy (by decide)) rfl dX11_move_51 rfl ?_
      obtain ⟨M20, hc18, hF⟩ := q_bvE hF
      refine v_callV (pc := 54) (ci := 4) (As := [.int x2, .int r16]) (rest := []) (st' := []) (r := none) (M1 := M20) K (kX4_add l K.2.2.2.2.2.2.1 hy ho5 hc18) (jg_V jl_X11_169 jw_i_X4_add jw_s_X4_add jw_n_X4 jw_c_X4_add) rfl rfl rfl jd_X4_add ⟨Nat.le_of_ble_eq_true rfl, Nat.le_of_ble_eq_true rfl⟩ rfl rfl (Nat.le_of_ble_eq_true rfl) ho5 (okc_0 hy (by decide)) rfl dX11_move_54 rfl ?_
      refine v_aload_n (pc := 57) K dX11_move_57 1 rfl ?_
      obtain ⟨r22, M23, hc21, hF⟩ := q_bE hF
      refine v_callV (pc := 58) (ci := 4) (As := []) (rest := []) (st' := [.int r22]) (r := some (.int r22)) (M1 := M23) K (kX4_now l K.2.2.2.2.2.2.1 hy ho5 hc21) (jg_V jl_X11_173 jw_i_X4_now jw_s_X4_now jw_n_X4 jw_c_X4_now) rfl rfl rfl jd_X4_now ⟨Nat.le_of_ble_eq_true rfl, Nat.le_of_ble_eq_true rfl⟩ rfl rfl (Nat.le_of_ble_eq_true rfl) ho5 (okc_0 hy (by decide)) rfl dX11_move_58 rfl ?_
      obtain ⟨r25, M26, hc24, hF⟩ := q_bE hF
      refine v_callS (pc := 61) (As := [.int r22]) (rest := []) (st' := [.int r25]) (r := some (.int r25)) (M1 := M26) K (kX7_ending l K.2.2.2.2.2.2.1 hy hc24) (jg_S jl_X11_177 jw_t_X7_ending jw_n_X7 jw_c_X7_ending) rfl rfl rfl jd_X7_ending ⟨Nat.le_of_ble_eq_true rfl, Nat.le_of_ble_eq_true rfl⟩ rfl rfl (Nat.le_of_ble_eq_true rfl) dX11_move_61 rfl ?_
      have hz := (Option.some.inj hF).symm
      subst hz
      exact v_iret (pc := 64) K hQ dX11_move_64
    · refine v_iconst (pc := 39) (v := -1) K dX11_move_39 rfl ?_
      have hz := (Option.some.inj hF).symm
      subst hz
      exact v_iret (pc := 40) K hQ dX11_move_40
set_option maxRecDepth 100000 in
set_option maxHeartbeats 4000000 in
theorem kX11_move (l : Launch) {y : Ly} (hJ : ly_J y) (hy : y.2.2.2.2 = 0) {M M1 : QM} {r : Int32} {x1 : Int32} {x2 : Int32} (hF : fX11_move M x1 x2 = some (r, M1)) : Met l yX11_move wqX11_move rmX11_move (q_P y [.ref (ly_o y 0), .int x1, .int x2] M) (q_E y (some (.int r)) M1) 0 0 (ly_A y) :=
  q_met (by decide) rfl hJ rfl rfl rfl (fun x K hQ => bX11_move_0 l K hy (z := (r, M1)) hQ  hF)
-- ===== X11_history (II)I
theorem jd_X11_history : yX11_history.cls = RX11 ∧ yX11_history.cls ≠ "java/lang/invoke/MethodHandle" ∧ yX11_history.cls ≠ "java/lang/invoke/VarHandle" ∧ (parseMethodDescriptor yX11_history.desc).map (fun d => d.parameters.length) = some 2 := by decide +kernel
abbrev wqX11_history : List Cond := .code yX11_history cX11_history 4 (some .int) :: wsL_law
abbrev rmX11_history : Room := { frames := 1, cells := 0, slots := 0, locals := 21 }
def fX11_history (M : QM) (x1 : Int32) (x2 : Int32) : Option (Int32 × QM) := (q_b (fX1_quarrelAt M 20 x1) fun r2 M3 => q_o r2 (some ((-1 : Int32), M3)) fun o4 => (if kls o4 = 4 then (q_b (fX4_moveAt M3 o4 x2) fun r7 M8 => some (r7, M8)) else none))
set_option maxRecDepth 100000 in
set_option maxHeartbeats 4000000 in
theorem bX11_history_0 {x : Cx} {y : Ly} (l : Launch) (K : VK x l rmX11_history y 4 cX11_history RX11 wqX11_history) (hy : y.2.2.2.2 = 0) {z : Int32 × QM} (hQ : VQ x y (some (.int z.1)) z.2 (some .int)) {M : QM} {x1 : Int32} {x2 : Int32} (hF : fX11_history M x1 x2 = some z) : V x y 4 M 0 [(0, .ref (ly_o y 0)), (1, .int x1), (2, .int x2)] [] := by
  unfold fX11_history at hF
  refine v_aload_n (pc := 0) K dX11_history_0 0 rfl ?_
  refine gX11_book (pc := 1) K hy (by decide) jn_X11 (List.mem_cons_of_mem _ jl_X11_37) dX11_history_1 ?_
  refine v_iload_n (pc := 4) K dX11_history_4 1 rfl ?_
  obtain ⟨r2, M3, hc1, hF⟩ := q_bE hF
  cases r2 with
  | none =>
    refine v_callV (pc := 5) (ci := 1) (As := [.int x1]) (rest := []) (st' := [.null]) (r := some .null) (M1 := M3) K (kX1_quarrelAt l K.2.2.2.2.2.2.1 hy (by decide) hc1) (jg_V jl_X11_157 jw_i_X1_quarrelAt jw_s_X1_quarrelAt jw_n_X1 jw_c_X1_quarrelAt) rfl rfl rfl jd_X1_quarrelAt ⟨Nat.le_of_ble_eq_true rfl, Nat.le_of_ble_eq_true rfl⟩ rfl rfl (Nat.le_of_ble_eq_true rfl) (by decide) (okc_0 hy (by decide)) rfl dX11_history_5 rfl ?_
    refine v_astore_nN (pc := 8) (lv' := [(3, .null), (0, .ref (ly_o y 0)), (1, .int x1), (2, .int x2)]) K dX11_history_8 3 rfl (by decide) rfl ?_
    refine v_aload_nN (pc := 9) K dX11_history_9 0 rfl ?_
    refine v_ifnonnullN (pc := 10) K dX11_history_10 ?_
    refine v_iconst (pc := 13) (v := -1) K dX11_history_13 rfl ?_
    have hz := (Option.some.inj hF).symm
    subst hz
    exact v_iret (pc := 14) K hQ dX11_history_14
  | some o4 =>
    obtain ⟨ho5, hF⟩ := q_kE hF
    refine v_callV (pc := 5) (ci := 1) (As := [.int x1]) (rest := []) (st' := [.ref (ly_o y o4)]) (r := some (.ref (ly_o y o4))) (M1 := M3) K (kX1_quarrelAt l K.2.2.2.2.2.2.1 hy (by decide) hc1) (jg_V jl_X11_157 jw_i_X1_quarrelAt jw_s_X1_quarrelAt jw_n_X1 jw_c_X1_quarrelAt) rfl rfl rfl jd_X1_quarrelAt ⟨Nat.le_of_ble_eq_true rfl, Nat.le_of_ble_eq_true rfl⟩ rfl rfl (Nat.le_of_ble_eq_true rfl) (by decide) (okc_0 hy (by decide)) rfl dX11_history_5 rfl ?_
    refine v_astore_n (pc := 8) (lv' := [(3, .ref (ly_o y o4)), (0, .ref (ly_o y 0)), (1, .int x1), (2, .int x2)]) K dX11_history_8 3 rfl (by decide) rfl ?_
    refine v_aload_n (pc := 9) K dX11_history_9 0 rfl ?_
    refine v_ifnonnull (pc := 10) (tgt := 15) K dX11_history_10 (by decide) ?_
    refine v_aload_n (pc := 15) K dX11_history_15 0 rfl ?_
    refine v_iload_n (pc := 16) K dX11_history_16 3 rfl ?_
    obtain ⟨r7, M8, hc6, hF⟩ := q_bE hF
    refine v_callV (pc := 17) (ci := 4) (As := [.int x2]) (rest := []) (st' := [.int r7]) (r := some (.int r7)) (M1 := M8) K (kX4_moveAt l K.2.2.2.2.2.2.1 hy ho5 hc6) (jg_V jl_X11_208 jw_i_X4_moveAt jw_s_X4_moveAt jw_n_X4 jw_c_X4_moveAt) rfl rfl rfl jd_X4_moveAt ⟨Nat.le_of_ble_eq_true rfl, Nat.le_of_ble_eq_true rfl⟩ rfl rfl (Nat.le_of_ble_eq_true rfl) ho5 (okc_0 hy (by decide)) rfl dX11_history_17 rfl ?_
    have hz := (Option.some.inj hF).symm
    subst hz
    exact v_iret (pc := 20) K hQ dX11_history_20
set_option maxRecDepth 100000 in
set_option maxHeartbeats 4000000 in
theorem kX11_history (l : Launch) {y : Ly} (hJ : ly_J y) (hy : y.2.2.2.2 = 0) {M M1 : QM} {r : Int32} {x1 : Int32} {x2 : Int32} (hF : fX11_history M x1 x2 = some (r, M1)) : Met l yX11_history wqX11_history rmX11_history (q_P y [.ref (ly_o y 0), .int x1, .int x2] M) (q_E y (some (.int r)) M1) 0 0 (ly_A y) :=
  q_met (by decide) rfl hJ rfl rfl rfl (fun x K hQ => bX11_history_0 l K hy (z := (r, M1)) hQ  hF)
-- ===== X11_ends (I)I
theorem jd_X11_ends : yX11_ends.cls = RX11 ∧ yX11_ends.cls ≠ "java/lang/invoke/MethodHandle" ∧ yX11_ends.cls ≠ "java/lang/invoke/VarHandle" ∧ (parseMethodDescriptor yX11_ends.desc).map (fun d => d.parameters.length) = some 1 := by decide +kernel
abbrev wqX11_ends : List Cond := .code yX11_ends cX11_ends 3 (some .int) :: wsL_law
abbrev rmX11_ends : Room := { frames := 7, cells := 0, slots := 0, locals := 178 }
def fX11_ends (M : QM) (x1 : Int32) : Option (Int32 × QM) := (q_b (fX1_quarrelAt M 20 x1) fun r2 M3 => q_o r2 (some ((-1 : Int32), M3)) fun o4 => (if kls o4 = 4 then (q_bv (fX11_study M3 o4) fun M8 => (q_b (fX4_now M8 o4) fun r10 M11 => (q_bv (fX10_go M11 r10) fun M14 => (q_b (fX10_outcomes M14) fun r16 M17 => some (r16, M17))))) else none))
set_option maxRecDepth 100000 in
set_option maxHeartbeats 4000000 in
theorem bX11_ends_0 {x : Cx} {y : Ly} (l : Launch) (K : VK x l rmX11_ends y 3 cX11_ends RX11 wqX11_ends) (hy : y.2.2.2.2 = 0) {z : Int32 × QM} (hQ : VQ x y (some (.int z.1)) z.2 (some .int)) {M : QM} {x1 : Int32} (hF : fX11_ends M x1 = some z) : V x y 3 M 0 [(0, .ref (ly_o y 0)), (1, .int x1)] [] := by
  unfold fX11_ends at hF
  refine v_aload_n (pc := 0) K dX11_ends_0 0 rfl ?_
  refine gX11_book (pc := 1) K hy (by decide) jn_X11 (List.mem_cons_of_mem _ jl_X11_37) dX11_ends_1 ?_
  refine v_iload_n (pc := 4) K dX11_ends_4 1 rfl ?_
  obtain ⟨r2, M3, hc1, hF⟩ := q_bE hF
  cases r2 with
  | none =>
    refine v_callV (pc := 5) (ci := 1) (As := [.int x1]) (rest := []) (st' := [.null]) (r := some .null) (M1 := M3) K (kX1_quarrelAt l K.2.2.2.2.2.2.1 hy (by decide) hc1) (jg_V jl_X11_157 jw_i_X1_quarrelAt jw_s_X1_quarrelAt jw_n_X1 jw_c_X1_quarrelAt) rfl rfl rfl jd_X1_quarrelAt ⟨Nat.le_of_ble_eq_true rfl, Nat.le_of_ble_eq_true rfl⟩ rfl rfl (Nat.le_of_ble_eq_true rfl) (by decide) (okc_0 hy (by decide)) rfl dX11_ends_5 rfl ?_
    refine v_astore_nN (pc := 8) (lv' := [(2, .null), (0, .ref (ly_o y 0)), (1, .int x1)]) K dX11_ends_8 2 rfl (by decide) rfl ?_
    refine v_aload_nN (pc := 9) K dX11_ends_9 0 rfl ?_
    refine v_ifnonnullN (pc := 10) K dX11_ends_10 ?_
    refine v_iconst (pc := 13) (v := -1) K dX11_ends_13 rfl ?_
    have hz := (Option.some.inj hF).symm
    subst hz
    exact v_iret (pc := 14) K hQ dX11_ends_14
  | some o4 =>
    obtain ⟨ho5, hF⟩ := q_kE hF
    refine v_callV (pc := 5) (ci := 1) (As := [.int x1]) (rest := []) (st' := [.ref (ly_o y o4)]) (r := some (.ref (ly_o y o4))) (M1 := M3) K (kX1_quarrelAt l K.2.2.2.2.2.2.1 hy (by decide) hc1) (jg_V jl_X11_157 jw_i_X1_quarrelAt jw_s_X1_quarrelAt jw_n_X1 jw_c_X1_quarrelAt) rfl rfl rfl jd_X1_quarrelAt ⟨Nat.le_of_ble_eq_true rfl, Nat.le_of_ble_eq_true rfl⟩ rfl rfl (Nat.le_of_ble_eq_true rfl) (by decide) (okc_0 hy (by decide)) rfl dX11_ends_5 rfl ?_
    refine v_astore_n (pc := 8) (lv' := [(2, .ref (ly_o y o4)), (0, .ref (ly_o y 0)), (1, .int x1)]) K dX11_ends_8 2 rfl (by decide) rfl ?_
    refine v_aload_n (pc := 9) K dX11_ends_9 0 rfl ?_
    refine v_ifnonnull (pc := 10) (tgt := 15) K dX11_ends_10 (by decide) ?_
    refine v_aload_n (pc := 15) K dX11_ends_15 1 rfl ?_
    refine v_aload_n (pc := 16) K dX11_ends_16 0 rfl ?_
    obtain ⟨M8, hc6, hF⟩ := q_bvE hF
    refine v_callV (pc := 17) (ci := 10) (As := [.ref (ly_o y o4)]) (rest := []) (st' := []) (r := none) (M1 := M8) K (kX11_study l K.2.2.2.2.2.2.1 hy ho5 hc6) (jg_V jl_X11_161 jw_i_X11_study jw_s_X11_study jw_n_X11 jw_c_X11_study) rfl rfl rfl jd_X11_study ⟨Nat.le_of_ble_eq_true rfl, Nat.le_of_ble_eq_true rfl⟩ rfl rfl (Nat.le_of_ble_eq_true rfl) (by decide) (okc_0 hy (by decide)) rfl dX11_ends_17 rfl ?_
    refine v_aload_n (pc := 20) K dX11_ends_20 1 rfl ?_
    refine gX11_walk (pc := 21) K hy (by decide) jn_X11 (List.mem_cons_of_mem _ jl_X11_69) dX11_ends_21 ?_
    refine v_aload_n (pc := 24) K dX11_ends_24 1 rfl ?_
    refine gX11_affair (pc := 25) K hy (by decide) jn_X11 (List.mem_cons_of_mem _ jl_X11_55) dX11_ends_25 ?_
    refine v_aload_n (pc := 28) K dX11_ends_28 0 rfl ?_
    obtain ⟨r10, M11, hc9, hF⟩ := q_bE hF
    refine v_callV (pc := 29) (ci := 4) (As := []) (rest := [.ref (ly_o y 4), .ref (ly_o y 6)]) (st' := [.int r10, .ref (ly_o y 4), .ref (ly_o y 6)]) (r := some (.int r10)) (M1 := M11) K (kX4_now l K.2.2.2.2.2.2.1 hy ho5 hc9) (jg_V jl_X11_173 jw_i_X4_now jw_s_X4_now jw_n_X4 jw_c_X4_now) rfl rfl rfl jd_X4_now ⟨Nat.le_of_ble_eq_true rfl, Nat.le_of_ble_eq_true rfl⟩ rfl rfl (Nat.le_of_ble_eq_true rfl) ho5 (okc_0 hy (by decide)) rfl dX11_ends_29 rfl ?_
    obtain ⟨M14, hc12, hF⟩ := q_bvE hF
    refine v_callV (pc := 32) (ci := 9) (As := [.ref (ly_o y 4), .int r10]) (rest := []) (st' := []) (r := none) (M1 := M14) K (kX10_go l K.2.2.2.2.2.2.1 hy hc12) (jg_V jl_X11_211 jw_i_X10_go jw_s_X10_go jw_n_X10 jw_c_X10_go) rfl rfl rfl jd_X10_go ⟨Nat.le_of_ble_eq_true rfl, Nat.le_of_ble_eq_true rfl⟩ rfl rfl (Nat.le_of_ble_eq_true rfl) (by decide) (okc_0 hy (by decide)) rfl dX11_ends_32 rfl ?_
    refine v_aload_n (pc := 35) K dX11_ends_35 1 rfl ?_
    refine gX11_walk (pc := 36) K hy (by decide) jn_X11 (List.mem_cons_of_mem _ jl_X11_69) dX11_ends_36 ?_
    obtain ⟨r16, M17, hc15, hF⟩ := q_bE hF
    refine v_callV (pc := 39) (ci := 9) (As := []) (rest := []) (st' := [.int r16]) (r := some (.int r16)) (M1 := M17) K (kX10_outcomes l K.2.2.2.2.2.2.1 hy hc15) (jg_V jl_X11_215 jw_i_X10_outcomes jw_s_X10_outcomes jw_n_X10 jw_c_X10_outcomes) rfl rfl rfl jd_X10_outcomes ⟨Nat.le_of_ble_eq_true rfl, Nat.le_of_ble_eq_true rfl⟩ rfl rfl (Nat.le_of_ble_eq_true rfl) (by decide) (okc_0 hy (by decide)) rfl dX11_ends_39 rfl ?_
    have hz := (Option.some.inj hF).symm
    subst hz
    exact v_iret (pc := 42) K hQ dX11_ends_42
set_option maxRecDepth 100000 in
set_option maxHeartbeats 4000000 in
theorem kX11_ends (l : Launch) {y : Ly} (hJ : ly_J y) (hy : y.2.2.2.2 = 0) {M M1 : QM} {r : Int32} {x1 : Int32} (hF : fX11_ends M x1 = some (r, M1)) : Met l yX11_ends wqX11_ends rmX11_ends (q_P y [.ref (ly_o y 0), .int x1] M) (q_E y (some (.int r)) M1) 0 0 (ly_A y) :=
  q_met (by decide) rfl hJ rfl rfl rfl (fun x K hQ => bX11_ends_0 l K hy (z := (r, M1)) hQ  hF)
-- ===== X11_ways (II)J
theorem jd_X11_ways : yX11_ways.cls = RX11 ∧ yX11_ways.cls ≠ "java/lang/invoke/MethodHandle" ∧ yX11_ways.cls ≠ "java/lang/invoke/VarHandle" ∧ (parseMethodDescriptor yX11_ways.desc).map (fun d => d.parameters.length) = some 2 := by decide +kernel
abbrev wqX11_ways : List Cond := .code yX11_ways cX11_ways 4 (some .long) :: wsL_law
abbrev rmX11_ways : Room := { frames := 7, cells := 0, slots := 0, locals := 178 }
def fX11_ways (M : QM) (x1 : Int32) (x2 : Int32) : Option (Int64 × QM) := (q_b (fX1_quarrelAt M 20 x1) fun r2 M3 => q_o r2 (some ((-1 : Int64), M3)) fun o4 => (if kls o4 = 4 then (q_b (fX11_isWithin M3 x2 (0 : Int32) (19 : Int32)) fun r7 M8 => if r7 ≠ (0 : Int32) then (q_bv (fX11_study M8 o4) fun M11 => (q_b (fX4_now M11 o4) fun r13 M14 => (q_bv (fX10_go M14 r13) fun M17 => (q_b (fX10_waysTo M17 x2) fun r19 M20 => some (r19, M20))))) else some ((-1 : Int64), M8)) else none))
set_option maxRecDepth 100000 in
set_option maxHeartbeats 4000000 in
theorem bX11_ways_0 {x : Cx} {y : Ly} (l : Launch) (K : VK x l rmX11_ways y 4 cX11_ways RX11 wqX11_ways) (hy : y.2.2.2.2 = 0) {z : Int64 × QM} (hQ : VQ x y (some (.long z.1)) z.2 (some .long)) {M : QM} {x1 : Int32} {x2 : Int32} (hF : fX11_ways M x1 x2 = some z) : V x y 4 M 0 [(0, .ref (ly_o y 0)), (1, .int x1), (2, .int x2)] [] := by
  unfold fX11_ways at hF
  refine v_aload_n (pc := 0) K dX11_ways_0 0 rfl ?_
  refine gX11_book (pc := 1) K hy (by decide) jn_X11 (List.mem_cons_of_mem _ jl_X11_37) dX11_ways_1 ?_
  refine v_iload_n (pc := 4) K dX11_ways_4 1 rfl ?_
  obtain ⟨r2, M3, hc1, hF⟩ := q_bE hF
  cases r2 with
  | none =>
    refine v_callV (pc := 5) (ci := 1) (As := [.int x1]) (rest := []) (st' := [.null]) (r := some .null) (M1 := M3) K (kX1_quarrelAt l K.2.2.2.2.2.2.1 hy (by decide) hc1) (jg_V jl_X11_157 jw_i_X1_quarrelAt jw_s_X1_quarrelAt jw_n_X1 jw_c_X1_quarrelAt) rfl rfl rfl jd_X1_quarrelAt ⟨Nat.le_of_ble_eq_true rfl, Nat.le_of_ble_eq_true rfl⟩ rfl rfl (Nat.le_of_ble_eq_true rfl) (by decide) (okc_0 hy (by decide)) rfl dX11_ways_5 rfl ?_
    refine v_astore_nN (pc := 8) (lv' := [(3, .null), (0, .ref (ly_o y 0)), (1, .int x1), (2, .int x2)]) K dX11_ways_8 3 rfl (by decide) rfl ?_
    refine v_aload_nN (pc := 9) K dX11_ways_9 0 rfl ?_
    refine v_ifnullN (pc := 10) (tgt := 23) K dX11_ways_10 (by decide) ?_
    refine v_ldc2 (pc := 23) (v := -1) K dX11_ways_23 (List.mem_cons_of_mem _ jl_X11_218) ?_
    have hz := (Option.some.inj hF).symm
    subst hz
    exact v_lret (pc := 26) K hQ dX11_ways_26
  | some o4 =>
    obtain ⟨ho5, hF⟩ := q_kE hF
    refine v_callV (pc := 5) (ci := 1) (As := [.int x1]) (rest := []) (st' := [.ref (ly_o y o4)]) (r := some (.ref (ly_o y o4))) (M1 := M3) K (kX1_quarrelAt l K.2.2.2.2.2.2.1 hy (by decide) hc1) (jg_V jl_X11_157 jw_i_X1_quarrelAt jw_s_X1_quarrelAt jw_n_X1 jw_c_X1_quarrelAt) rfl rfl rfl jd_X1_quarrelAt ⟨Nat.le_of_ble_eq_true rfl, Nat.le_of_ble_eq_true rfl⟩ rfl rfl (Nat.le_of_ble_eq_true rfl) (by decide) (okc_0 hy (by decide)) rfl dX11_ways_5 rfl ?_
    refine v_astore_n (pc := 8) (lv' := [(3, .ref (ly_o y o4)), (0, .ref (ly_o y 0)), (1, .int x1), (2, .int x2)]) K dX11_ways_8 3 rfl (by decide) rfl ?_
    refine v_aload_n (pc := 9) K dX11_ways_9 0 rfl ?_
    refine v_ifnull (pc := 10) K dX11_ways_10 ?_
    refine v_iload_n (pc := 13) K dX11_ways_13 3 rfl ?_
    refine v_iconst (pc := 14) (v := 0) K dX11_ways_14 rfl ?_
    refine v_bipush (pc := 15) (v := 19) K dX11_ways_15 rfl ?_
    obtain ⟨r7, M8, hc6, hF⟩ := q_bE hF
    refine v_callS (pc := 17) (As := [.int x2, .int (0 : Int32), .int (19 : Int32)]) (rest := []) (st' := [.int r7]) (r := some (.int r7)) (M1 := M8) K (kX11_isWithin l K.2.2.2.2.2.2.1 hy hc6) (jg_S jl_X11_73 jw_t_X11_isWithin jw_n_X11 jw_c_X11_isWithin) rfl rfl rfl jd_X11_isWithin ⟨Nat.le_of_ble_eq_true rfl, Nat.le_of_ble_eq_true rfl⟩ rfl rfl (Nat.le_of_ble_eq_true rfl) dX11_ways_17 rfl ?_
    refine v_if_ne (pc := 20) (tgt := 27) K dX11_ways_20 (by decide) hF (fun c21 hF => ?_) (fun c21 hF => ?_)
    · refine v_aload_n (pc := 27) K dX11_ways_27 1 rfl ?_
      refine v_aload_n (pc := 28) K dX11_ways_28 0 rfl ?_
      obtain ⟨M11, hc9, hF⟩ := q_bvE hF
      refine v_callV (pc := 29) (ci := 10) (As := [.ref (ly_o y o4)]) (rest := []) (st' := []) (r := none) (M1 := M11) K (kX11_study l K.2.2.2.2.2.2.1 hy ho5 hc9) (jg_V jl_X11_161 jw_i_X11_study jw_s_X11_study jw_n_X11 jw_c_X11_study) rfl rfl rfl jd_X11_study ⟨Nat.le_of_ble_eq_true rfl, Nat.le_of_ble_eq_true rfl⟩ rfl rfl (Nat.le_of_ble_eq_true rfl) (by decide) (okc_0 hy (by decide)) rfl dX11_ways_29 rfl ?_
      refine v_aload_n (pc := 32) K dX11_ways_32 1 rfl ?_
      refine gX11_walk (pc := 33) K hy (by decide) jn_X11 (List.mem_cons_of_mem _ jl_X11_69) dX11_ways_33 ?_
      refine v_aload_n (pc := 36) K dX11_ways_36 1 rfl ?_
      refine gX11_affair (pc := 37) K hy (by decide) jn_X11 (List.mem_cons_of_mem _ jl_X11_55) dX11_ways_37 ?_
      refine v_aload_n (pc := 40) K dX11_ways_40 0 rfl ?_
      obtain ⟨r13, M14, hc12, hF⟩ := q_bE hF
      refine v_callV (pc := 41) (ci := 4) (As := []) (rest := [.ref (ly_o y 4), .ref (ly_o y 6)]) (st' := [.int r13, .ref (ly_o y 4), .ref (ly_o y 6)]) (r := some (.int r13)) (M1 := M14) K (kX4_now l K.2.2.2.2.2.2.1 hy ho5 hc12) (jg_V jl_X11_173 jw_i_X4_now jw_s_X4_now jw_n_X4 jw_c_X4_now) rfl rfl rfl jd_X4_now ⟨Nat.le_of_ble_eq_true rfl, Nat.le_of_ble_eq_true rfl⟩ rfl rfl (Nat.le_of_ble_eq_true rfl) ho5 (okc_0 hy (by decide)) rfl dX11_ways_41 rfl ?_
      obtain ⟨M17, hc15, hF⟩ := q_bvE hF
      refine v_callV (pc := 44) (ci := 9) (As := [.ref (ly_o y 4), .int r13]) (rest := []) (st' := []) (r := none) (M1 := M17) K (kX10_go l K.2.2.2.2.2.2.1 hy hc15) (jg_V jl_X11_211 jw_i_X10_go jw_s_X10_go jw_n_X10 jw_c_X10_go) rfl rfl rfl jd_X10_go ⟨Nat.le_of_ble_eq_true rfl, Nat.le_of_ble_eq_true rfl⟩ rfl rfl (Nat.le_of_ble_eq_true rfl) (by decide) (okc_0 hy (by decide)) rfl dX11_ways_44 rfl ?_
      refine v_aload_n (pc := 47) K dX11_ways_47 1 rfl ?_
      refine gX11_walk (pc := 48) K hy (by decide) jn_X11 (List.mem_cons_of_mem _ jl_X11_69) dX11_ways_48 ?_
      refine v_iload_n (pc := 51) K dX11_ways_51 3 rfl ?_
      obtain ⟨r19, M20, hc18, hF⟩ := q_bE hF
      refine v_callV (pc := 52) (ci := 9) (As := [.int x2]) (rest := []) (st' := [.long r19]) (r := some (.long r19)) (M1 := M20) K (kX10_waysTo l K.2.2.2.2.2.2.1 hy hc18) (jg_V jl_X11_220 jw_i_X10_waysTo jw_s_X10_waysTo jw_n_X10 jw_c_X10_waysTo) rfl rfl rfl jd_X10_waysTo ⟨Nat.le_of_ble_eq_true rfl, Nat.le_of_ble_eq_true rfl⟩ rfl rfl (Nat.le_of_ble_eq_true rfl) (by decide) (okc_0 hy (by decide)) rfl dX11_ways_52 rfl ?_
      have hz := (Option.some.inj hF).symm
      subst hz
      exact v_lret (pc := 55) K hQ dX11_ways_55
    · refine v_ldc2 (pc := 23) (v := -1) K dX11_ways_23 (List.mem_cons_of_mem _ jl_X11_218) ?_
      have hz := (Option.some.inj hF).symm
      subst hz
      exact v_lret (pc := 26) K hQ dX11_ways_26
set_option maxRecDepth 100000 in
set_option maxHeartbeats 4000000 in
theorem kX11_ways (l : Launch) {y : Ly} (hJ : ly_J y) (hy : y.2.2.2.2 = 0) {M M1 : QM} {r : Int64} {x1 : Int32} {x2 : Int32} (hF : fX11_ways M x1 x2 = some (r, M1)) : Met l yX11_ways wqX11_ways rmX11_ways (q_P y [.ref (ly_o y 0), .int x1, .int x2] M) (q_E y (some (.long r)) M1) 0 0 (ly_A y) :=
  q_met (by decide) rfl hJ rfl rfl rfl (fun x K hQ => bX11_ways_0 l K hy (z := (r, M1)) hQ  hF)
-- ===== X11_brief (III)I
theorem jd_X11_brief : yX11_brief.cls = RX11 ∧ yX11_brief.cls ≠ "java/lang/invoke/MethodHandle" ∧ yX11_brief.cls ≠ "java/lang/invoke/VarHandle" ∧ (parseMethodDescriptor yX11_brief.desc).map (fun d => d.parameters.length) = some 3 := by decide +kernel
abbrev wqX11_brief : List Cond := .code yX11_brief cX11_brief 6 (some .int) :: wsL_law
abbrev rmX11_brief : Room := { frames := 7, cells := 0, slots := 0, locals := 178 }
def fX11_brief (M : QM) (x1 : Int32) (x2 : Int32) (x3 : Int32) : Option (Int32 × QM) := (q_b (fX1_quarrelAt M 20 x1) fun r2 M3 => q_o r2 (some ((-1 : Int32), M3)) fun o4 => (if kls o4 = 4 then (q_b (fX11_isWithin M3 x2 (0 : Int32) (19 : Int32)) fun r7 M8 => if r7 = (0 : Int32) then some ((-1 : Int32), M8) else if (-1 : Int32) ≤ x3 then (q_bv (fX11_study M8 o4) fun M11 => (q_b (fX4_now M11 o4) fun r13 M14 => (q_bv (fX10_go M14 r13) fun M17 => (q_b (fX10_waysTo M17 x2) fun r19 M20 => if (lg_cmp r19 (0 : Int64)) ≠ (0 : Int32) then (q_b (fX10_fewestTo M20 x2) fun r22 M23 => if x3 ≠ (-1 : Int32) then if r22 ≤ x3 then some ((-1 : Int32), M23) else (q_b (fX10_moveTo M23 x2 ((r22 - (1 : Int32)) - x3)) fun r25 M26 => some (r25, M26)) else some (r22, M23)) else some ((-2 : Int32), M20))))) else some ((-1 : Int32), M8)) else none))
set_option maxRecDepth 100000 in
set_option maxHeartbeats 4000000 in
theorem bX11_brief_0 {x : Cx} {y : Ly} (l : Launch) (K : VK x l rmX11_brief y 6 cX11_brief RX11 wqX11_brief) (hy : y.2.2.2.2 = 0) {z : Int32 × QM} (hQ : VQ x y (some (.int z.1)) z.2 (some .int)) {M : QM} {x1 : Int32} {x2 : Int32} {x3 : Int32} (hF : fX11_brief M x1 x2 x3 = some z) : V x y 6 M 0 [(0, .ref (ly_o y 0)), (1, .int x1), (2, .int x2), (3, .int x3)] [] := by
  unfold fX11_brief at hF
  refine v_aload_n (pc := 0) K dX11_brief_0 0 rfl ?_
  refine gX11_book (pc := 1) K hy (by decide) jn_X11 (List.mem_cons_of_mem _ jl_X11_37) dX11_brief_1 ?_
  refine v_iload_n (pc := 4) K dX11_brief_4 1 rfl ?_
  obtain ⟨r2, M3, hc1, hF⟩ := q_bE hF
  cases r2 with
  | none =>
    refine v_callV (pc := 5) (ci := 1) (As := [.int x1]) (rest := []) (st' := [.null]) (r := some .null) (M1 := M3) K (kX1_quarrelAt l K.2.2.2.2.2.2.1 hy (by decide) hc1) (jg_V jl_X11_157 jw_i_X1_quarrelAt jw_s_X1_quarrelAt jw_n_X1 jw_c_X1_quarrelAt) rfl rfl rfl jd_X1_quarrelAt ⟨Nat.le_of_ble_eq_true rfl, Nat.le_of_ble_eq_true rfl⟩ rfl rfl (Nat.le_of_ble_eq_true rfl) (by decide) (okc_0 hy (by decide)) rfl dX11_brief_5 rfl ?_
    refine v_astoreN (pc := 8) (lv' := [(4, .null), (0, .ref (ly_o y 0)), (1, .int x1), (2, .int x2), (3, .int x3)]) K 4 dX11_brief_8 (by decide) rfl ?_
    refine v_aloadN (pc := 10) K dX11_brief_10 0 rfl ?_
    refine v_ifnullN (pc := 12) (tgt := 30) K dX11_brief_12 (by decide) ?_
    refine v_iconst (pc := 30) (v := -1) K dX11_brief_30 rfl ?_
    have hz := (Option.some.inj hF).symm
    subst hz
    exact v_iret (pc := 31) K hQ dX11_brief_31
  | some o4 =>
    obtain ⟨ho5, hF⟩ := q_kE hF
    refine v_callV (pc := 5) (ci := 1) (As := [.int x1]) (rest := []) (st' := [.ref (ly_o y o4)]) (r := some (.ref (ly_o y o4))) (M1 := M3) K (kX1_quarrelAt l K.2.2.2.2.2.2.1 hy (by decide) hc1) (jg_V jl_X11_157 jw_i_X1_quarrelAt jw_s_X1_quarrelAt jw_n_X1 jw_c_X1_quarrelAt) rfl rfl rfl jd_X1_quarrelAt ⟨Nat.le_of_ble_eq_true rfl, Nat.le_of_ble_eq_true rfl⟩ rfl rfl (Nat.le_of_ble_eq_true rfl) (by decide) (okc_0 hy (by decide)) rfl dX11_brief_5 rfl ?_
    refine v_astore (pc := 8) (lv' := [(4, .ref (ly_o y o4)), (0, .ref (ly_o y 0)), (1, .int x1), (2, .int x2), (3, .int x3)]) K 4 dX11_brief_8 (by decide) rfl ?_
    refine v_aload (pc := 10) K dX11_brief_10 0 rfl ?_
    refine v_ifnull (pc := 12) K dX11_brief_12 ?_
    refine v_iload_n (pc := 15) K dX11_brief_15 3 rfl ?_
    refine v_iconst (pc := 16) (v := 0) K dX11_brief_16 rfl ?_
    refine v_bipush (pc := 17) (v := 19) K dX11_brief_17 rfl ?_
    obtain ⟨r7, M8, hc6, hF⟩ := q_bE hF
    refine v_callS (pc := 19) (As := [.int x2, .int (0 : Int32), .int (19 : Int32)]) (rest := []) (st' := [.int r7]) (r := some (.int r7)) (M1 := M8) K (kX11_isWithin l K.2.2.2.2.2.2.1 hy hc6) (jg_S jl_X11_73 jw_t_X11_isWithin jw_n_X11 jw_c_X11_isWithin) rfl rfl rfl jd_X11_isWithin ⟨Nat.le_of_ble_eq_true rfl, Nat.le_of_ble_eq_true rfl⟩ rfl rfl (Nat.le_of_ble_eq_true rfl) dX11_brief_19 rfl ?_
    refine v_if_eq (pc := 22) (tgt := 30) K dX11_brief_22 (by decide) hF (fun c31 hF => ?_) (fun c31 hF => ?_)
    · refine v_iconst (pc := 30) (v := -1) K dX11_brief_30 rfl ?_
      have hz := (Option.some.inj hF).symm
      subst hz
      exact v_iret (pc := 31) K hQ dX11_brief_31
    · refine v_iload_n (pc := 25) K dX11_brief_25 4 rfl ?_
      refine v_iconst (pc := 26) (v := -1) K dX11_brief_26 rfl ?_
      refine v_icmp_ge (pc := 27) (tgt := 32) K dX11_brief_27 (by decide) hF (fun c30 hF => ?_) (fun c30 hF => ?_)
      · refine v_aload_n (pc := 32) K dX11_brief_32 1 rfl ?_
        refine v_aload (pc := 33) K dX11_brief_33 0 rfl ?_
        obtain ⟨M11, hc9, hF⟩ := q_bvE hF
        refine v_callV (pc := 35) (ci := 10) (As := [.ref (ly_o y o4)]) (rest := []) (st' := []) (r := none) (M1 := M11) K (kX11_study l K.2.2.2.2.2.2.1 hy ho5 hc9) (jg_V jl_X11_161 jw_i_X11_study jw_s_X11_study jw_n_X11 jw_c_X11_study) rfl rfl rfl jd_X11_study ⟨Nat.le_of_ble_eq_true rfl, Nat.le_of_ble_eq_true rfl⟩ rfl rfl (Nat.le_of_ble_eq_true rfl) (by decide) (okc_0 hy (by decide)) rfl dX11_brief_35 rfl ?_
        refine v_aload_n (pc := 38) K dX11_brief_38 1 rfl ?_
        refine gX11_walk (pc := 39) K hy (by decide) jn_X11 (List.mem_cons_of_mem _ jl_X11_69) dX11_brief_39 ?_
        refine v_aload_n (pc := 42) K dX11_brief_42 1 rfl ?_
        refine gX11_affair (pc := 43) K hy (by decide) jn_X11 (List.mem_cons_of_mem _ jl_X11_55) dX11_brief_43 ?_
        refine v_aload (pc := 46) K dX11_brief_46 0 rfl ?_
        obtain ⟨r13, M14, hc12, hF⟩ := q_bE hF
        refine v_callV (pc := 48) (ci := 4) (As := []) (rest := [.ref (ly_o y 4), .ref (ly_o y 6)]) (st' := [.int r13, .ref (ly_o y 4), .ref (ly_o y 6)]) (r := some (.int r13)) (M1 := M14) K (kX4_now l K.2.2.2.2.2.2.1 hy ho5 hc12) (jg_V jl_X11_173 jw_i_X4_now jw_s_X4_now jw_n_X4 jw_c_X4_now) rfl rfl rfl jd_X4_now ⟨Nat.le_of_ble_eq_true rfl, Nat.le_of_ble_eq_true rfl⟩ rfl rfl (Nat.le_of_ble_eq_true rfl) ho5 (okc_0 hy (by decide)) rfl dX11_brief_48 rfl ?_
        obtain ⟨M17, hc15, hF⟩ := q_bvE hF
        refine v_callV (pc := 51) (ci := 9) (As := [.ref (ly_o y 4), .int r13]) (rest := []) (st' := []) (r := none) (M1 := M17) K (kX10_go l K.2.2.2.2.2.2.1 hy hc15) (jg_V jl_X11_211 jw_i_X10_go jw_s_X10_go jw_n_X10 jw_c_X10_go) rfl rfl rfl jd_X10_go ⟨Nat.le_of_ble_eq_true rfl, Nat.le_of_ble_eq_true rfl⟩ rfl rfl (Nat.le_of_ble_eq_true rfl) (by decide) (okc_0 hy (by decide)) rfl dX11_brief_51 rfl ?_
        refine v_aload_n (pc := 54) K dX11_brief_54 1 rfl ?_
        refine gX11_walk (pc := 55) K hy (by decide) jn_X11 (List.mem_cons_of_mem _ jl_X11_69) dX11_brief_55 ?_
        refine v_iload_n (pc := 58) K dX11_brief_58 3 rfl ?_
        obtain ⟨r19, M20, hc18, hF⟩ := q_bE hF
        refine v_callV (pc := 59) (ci := 9) (As := [.int x2]) (rest := []) (st' := [.long r19]) (r := some (.long r19)) (M1 := M20) K (kX10_waysTo l K.2.2.2.2.2.2.1 hy hc18) (jg_V jl_X11_220 jw_i_X10_waysTo jw_s_X10_waysTo jw_n_X10 jw_c_X10_waysTo) rfl rfl rfl jd_X10_waysTo ⟨Nat.le_of_ble_eq_true rfl, Nat.le_of_ble_eq_true rfl⟩ rfl rfl (Nat.le_of_ble_eq_true rfl) (by decide) (okc_0 hy (by decide)) rfl dX11_brief_59 rfl ?_
        refine v_lconst (pc := 62) (v := 0) K dX11_brief_62 rfl ?_
        refine v_lcmp (pc := 63) K dX11_brief_63 ?_
        refine v_if_ne (pc := 64) (tgt := 70) K dX11_brief_64 (by decide) hF (fun c29 hF => ?_) (fun c29 hF => ?_)
        · refine v_aload_n (pc := 70) K dX11_brief_70 1 rfl ?_
          refine gX11_walk (pc := 71) K hy (by decide) jn_X11 (List.mem_cons_of_mem _ jl_X11_69) dX11_brief_71 ?_
          refine v_iload_n (pc := 74) K dX11_brief_74 3 rfl ?_
          obtain ⟨r22, M23, hc21, hF⟩ := q_bE hF
          refine v_callV (pc := 75) (ci := 9) (As := [.int x2]) (rest := []) (st' := [.int r22]) (r := some (.int r22)) (M1 := M23) K (kX10_fewestTo l K.2.2.2.2.2.2.1 hy hc21) (jg_V jl_X11_224 jw_i_X10_fewestTo jw_s_X10_fewestTo jw_n_X10 jw_c_X10_fewestTo) rfl rfl rfl jd_X10_fewestTo ⟨Nat.le_of_ble_eq_true rfl, Nat.le_of_ble_eq_true rfl⟩ rfl rfl (Nat.le_of_ble_eq_true rfl) (by decide) (okc_0 hy (by decide)) rfl dX11_brief_75 rfl ?_
          refine v_istore (pc := 78) (lv' := [(5, .int r22), (4, .ref (ly_o y o4)), (0, .ref (ly_o y 0)), (1, .int x1), (2, .int x2), (3, .int x3)]) K 5 dX11_brief_78 (by decide) rfl ?_
          refine v_iload_n (pc := 80) K dX11_brief_80 5 rfl ?_
          refine v_iconst (pc := 81) (v := -1) K dX11_brief_81 rfl ?_
          refine v_icmp_ne (pc := 82) (tgt := 88) K dX11_brief_82 (by decide) hF (fun c28 hF => ?_) (fun c28 hF => ?_)
          · refine v_iload_n (pc := 88) K dX11_brief_88 5 rfl ?_
            refine v_iload (pc := 89) K dX11_brief_89 0 rfl ?_
            refine v_icmp_ge (pc := 91) (tgt := 111) K dX11_brief_91 (by decide) hF (fun c27 hF => ?_) (fun c27 hF => ?_)
            · refine v_iconst (pc := 111) (v := -1) K dX11_brief_111 rfl ?_
              have hz := (Option.some.inj hF).symm
              subst hz
              exact v_iret (pc := 112) K hQ dX11_brief_112
            · refine v_aload_n (pc := 94) K dX11_brief_94 2 rfl ?_
              refine gX11_walk (pc := 95) K hy (by decide) jn_X11 (List.mem_cons_of_mem _ jl_X11_69) dX11_brief_95 ?_
              refine v_iload_n (pc := 98) K dX11_brief_98 4 rfl ?_
              refine v_iload (pc := 99) K dX11_brief_99 0 rfl ?_
              refine v_iconst (pc := 101) (v := 1) K dX11_brief_101 rfl ?_
              refine v_isub (pc := 102) K dX11_brief_102 ?_
              refine v_iload_n (pc := 103) K dX11_brief_103 5 rfl ?_
              refine v_isub (pc := 104) K dX11_brief_104 ?_
              obtain ⟨r25, M26, hc24, hF⟩ := q_bE hF
              refine v_callV (pc := 105) (ci := 9) (As := [.int x2, .int ((r22 - (1 : Int32)) - x3)]) (rest := []) (st' := [.int r25]) (r := some (.int r25)) (M1 := M26) K (kX10_moveTo l K.2.2.2.2.2.2.1 hy hc24) (jg_V jl_X11_227 jw_i_X10_moveTo jw_s_X10_moveTo jw_n_X10 jw_c_X10_moveTo) rfl rfl rfl jd_X10_moveTo ⟨Nat.le_of_ble_eq_true rfl, Nat.le_of_ble_eq_true rfl⟩ rfl rfl (Nat.le_of_ble_eq_true rfl) (by decide) (okc_0 hy (by decide)) rfl dX11_brief_105 rfl ?_
              refine v_goto (pc := 108) (tgt := 112) K dX11_brief_108 (by decide) ?_
              have hz := (Option.some.inj hF).symm
              subst hz
              exact v_iret (pc := 112) K hQ dX11_brief_112
          · refine v_iload (pc := 85) K dX11_brief_85 0 rfl ?_
            have hz := (Option.some.inj hF).symm
            subst hz
            exact v_iret (pc := 87) K hQ dX11_brief_87
        · refine v_bipush (pc := 67) (v := -2) K dX11_brief_67 rfl ?_
          have hz := (Option.some.inj hF).symm
          subst hz
          exact v_iret (pc := 69) K hQ dX11_brief_69
      · refine v_iconst (pc := 30) (v := -1) K dX11_brief_30 rfl ?_
        have hz := (Option.some.inj hF).symm
        subst hz
        exact v_iret (pc := 31) K hQ dX11_brief_31
set_option maxRecDepth 100000 in
set_option maxHeartbeats 4000000 in
theorem kX11_brief (l : Launch) {y : Ly} (hJ : ly_J y) (hy : y.2.2.2.2 = 0) {M M1 : QM} {r : Int32} {x1 : Int32} {x2 : Int32} {x3 : Int32} (hF : fX11_brief M x1 x2 x3 = some (r, M1)) : Met l yX11_brief wqX11_brief rmX11_brief (q_P y [.ref (ly_o y 0), .int x1, .int x2, .int x3] M) (q_E y (some (.int r)) M1) 0 0 (ly_A y) :=
  q_met (by decide) rfl hJ rfl rfl rfl (fun x K hQ => bX11_brief_0 l K hy (z := (r, M1)) hQ  hF)
-- ===== X11_mustMeet (I)Z
theorem jd_X11_mustMeet : yX11_mustMeet.cls ≠ "java/lang/invoke/MethodHandle" ∧ yX11_mustMeet.cls ≠ "java/lang/invoke/VarHandle" ∧ (parseMethodDescriptor yX11_mustMeet.desc).map (fun d => d.parameters.length) = some 1 := by decide +kernel
abbrev wqX11_mustMeet : List Cond := .code yX11_mustMeet cX11_mustMeet 1 (some .boolean) :: wsL_law
abbrev rmX11_mustMeet : Room := { frames := 1, cells := 0, slots := 0, locals := 20 }
def fX11_mustMeet (M : QM) (x0 : Int32) : Option (Int32 × QM) := (q_b (fX7_ending M x0) fun r2 M3 => if r2 ≠ (2 : Int32) then some ((0 : Int32), M3) else some ((1 : Int32), M3))
set_option maxRecDepth 100000 in
set_option maxHeartbeats 4000000 in
theorem bX11_mustMeet_0 {x : Cx} {y : Ly} (l : Launch) (K : VK x l rmX11_mustMeet y 1 cX11_mustMeet RX11 wqX11_mustMeet) (hy : y.2.2.2.2 = 0) {z : Int32 × QM} (hQ : VQ x y (some (.int z.1)) z.2 (some .boolean)) {M : QM} {x0 : Int32} (hF : fX11_mustMeet M x0 = some z) : V x y 1 M 0 [(0, .int x0)] [] := by
  unfold fX11_mustMeet at hF
  refine v_iload_n (pc := 0) K dX11_mustMeet_0 0 rfl ?_
  obtain ⟨r2, M3, hc1, hF⟩ := q_bE hF
  refine v_callS (pc := 1) (As := [.int x0]) (rest := []) (st' := [.int r2]) (r := some (.int r2)) (M1 := M3) K (kX7_ending l K.2.2.2.2.2.2.1 hy hc1) (jg_S jl_X11_177 jw_t_X7_ending jw_n_X7 jw_c_X7_ending) rfl rfl rfl jd_X7_ending ⟨Nat.le_of_ble_eq_true rfl, Nat.le_of_ble_eq_true rfl⟩ rfl rfl (Nat.le_of_ble_eq_true rfl) dX11_mustMeet_1 rfl ?_
  refine v_iconst (pc := 4) (v := 2) K dX11_mustMeet_4 rfl ?_
  refine v_icmp_ne (pc := 5) (tgt := 12) K dX11_mustMeet_5 (by decide) hF (fun c4 hF => ?_) (fun c4 hF => ?_)
  · refine v_iconst (pc := 12) (v := 0) K dX11_mustMeet_12 rfl ?_
    have hz := (Option.some.inj hF).symm
    subst hz
    exact v_zret (pc := 13) K hQ rfl dX11_mustMeet_13
  · refine v_iconst (pc := 8) (v := 1) K dX11_mustMeet_8 rfl ?_
    refine v_goto (pc := 9) (tgt := 13) K dX11_mustMeet_9 (by decide) ?_
    have hz := (Option.some.inj hF).symm
    subst hz
    exact v_zret (pc := 13) K hQ rfl dX11_mustMeet_13
set_option maxRecDepth 100000 in
set_option maxHeartbeats 4000000 in
theorem kX11_mustMeet (l : Launch) {y : Ly} (hJ : ly_J y) (hy : y.2.2.2.2 = 0) {M M1 : QM} {r : Int32} {x0 : Int32} (hF : fX11_mustMeet M x0 = some (r, M1)) : Met l yX11_mustMeet wqX11_mustMeet rmX11_mustMeet (q_P y [.int x0] M) (q_E y (some (.int r)) M1) 0 0 (ly_A y) :=
  q_met (by decide) rfl hJ rfl rfl rfl (fun x K hQ => bX11_mustMeet_0 l K hy (z := (r, M1)) hQ  hF)
-- ===== X11_must (I)I
theorem jd_X11_must : yX11_must.cls = RX11 ∧ yX11_must.cls ≠ "java/lang/invoke/MethodHandle" ∧ yX11_must.cls ≠ "java/lang/invoke/VarHandle" ∧ (parseMethodDescriptor yX11_must.desc).map (fun d => d.parameters.length) = some 1 := by decide +kernel
abbrev wqX11_must : List Cond := .code yX11_must cX11_must 3 (some .int) :: wsL_law
abbrev rmX11_must : Room := { frames := 2, cells := 0, slots := 0, locals := 41 }
def fX11_must (M : QM) (x1 : Int32) : Option (Int32 × QM) := (q_b (fX1_quarrelAt M 20 x1) fun r2 M3 => q_o r2 (some ((-1 : Int32), M3)) fun o4 => (if kls o4 = 4 then (q_b (fX4_now M3 o4) fun r7 M8 => (q_b (fX11_mustMeet M8 r7) fun r10 M11 => if r10 = (0 : Int32) then some ((0 : Int32), M11) else some ((1 : Int32), M11))) else none))
set_option maxRecDepth 100000 in
set_option maxHeartbeats 4000000 in
theorem bX11_must_0 {x : Cx} {y : Ly} (l : Launch) (K : VK x l rmX11_must y 3 cX11_must RX11 wqX11_must) (hy : y.2.2.2.2 = 0) {z : Int32 × QM} (hQ : VQ x y (some (.int z.1)) z.2 (some .int)) {M : QM} {x1 : Int32} (hF : fX11_must M x1 = some z) : V x y 3 M 0 [(0, .ref (ly_o y 0)), (1, .int x1)] [] := by
  unfold fX11_must at hF
  refine v_aload_n (pc := 0) K dX11_must_0 0 rfl ?_
  refine gX11_book (pc := 1) K hy (by decide) jn_X11 (List.mem_cons_of_mem _ jl_X11_37) dX11_must_1 ?_
  refine v_iload_n (pc := 4) K dX11_must_4 1 rfl ?_
  obtain ⟨r2, M3, hc1, hF⟩ := q_bE hF
  cases r2 with
  | none =>
    refine v_callV (pc := 5) (ci := 1) (As := [.int x1]) (rest := []) (st' := [.null]) (r := some .null) (M1 := M3) K (kX1_quarrelAt l K.2.2.2.2.2.2.1 hy (by decide) hc1) (jg_V jl_X11_157 jw_i_X1_quarrelAt jw_s_X1_quarrelAt jw_n_X1 jw_c_X1_quarrelAt) rfl rfl rfl jd_X1_quarrelAt ⟨Nat.le_of_ble_eq_true rfl, Nat.le_of_ble_eq_true rfl⟩ rfl rfl (Nat.le_of_ble_eq_true rfl) (by decide) (okc_0 hy (by decide)) rfl dX11_must_5 rfl ?_
    refine v_astore_nN (pc := 8) (lv' := [(2, .null), (0, .ref (ly_o y 0)), (1, .int x1)]) K dX11_must_8 2 rfl (by decide) rfl ?_
    refine v_aload_nN (pc := 9) K dX11_must_9 0 rfl ?_
    refine v_ifnonnullN (pc := 10) K dX11_must_10 ?_
    refine v_iconst (pc := 13) (v := -1) K dX11_must_13 rfl ?_
    have hz := (Option.some.inj hF).symm
    subst hz
    exact v_iret (pc := 14) K hQ dX11_must_14
  | some o4 =>
    obtain ⟨ho5, hF⟩ := q_kE hF
    refine v_callV (pc := 5) (ci := 1) (As := [.int x1]) (rest := []) (st' := [.ref (ly_o y o4)]) (r := some (.ref (ly_o y o4))) (M1 := M3) K (kX1_quarrelAt l K.2.2.2.2.2.2.1 hy (by decide) hc1) (jg_V jl_X11_157 jw_i_X1_quarrelAt jw_s_X1_quarrelAt jw_n_X1 jw_c_X1_quarrelAt) rfl rfl rfl jd_X1_quarrelAt ⟨Nat.le_of_ble_eq_true rfl, Nat.le_of_ble_eq_true rfl⟩ rfl rfl (Nat.le_of_ble_eq_true rfl) (by decide) (okc_0 hy (by decide)) rfl dX11_must_5 rfl ?_
    refine v_astore_n (pc := 8) (lv' := [(2, .ref (ly_o y o4)), (0, .ref (ly_o y 0)), (1, .int x1)]) K dX11_must_8 2 rfl (by decide) rfl ?_
    refine v_aload_n (pc := 9) K dX11_must_9 0 rfl ?_
    refine v_ifnonnull (pc := 10) (tgt := 15) K dX11_must_10 (by decide) ?_
    refine v_aload_n (pc := 15) K dX11_must_15 0 rfl ?_
    obtain ⟨r7, M8, hc6, hF⟩ := q_bE hF
    refine v_callV (pc := 16) (ci := 4) (As := []) (rest := []) (st' := [.int r7]) (r := some (.int r7)) (M1 := M8) K (kX4_now l K.2.2.2.2.2.2.1 hy ho5 hc6) (jg_V jl_X11_173 jw_i_X4_now jw_s_X4_now jw_n_X4 jw_c_X4_now) rfl rfl rfl jd_X4_now ⟨Nat.le_of_ble_eq_true rfl, Nat.le_of_ble_eq_true rfl⟩ rfl rfl (Nat.le_of_ble_eq_true rfl) ho5 (okc_0 hy (by decide)) rfl dX11_must_16 rfl ?_
    obtain ⟨r10, M11, hc9, hF⟩ := q_bE hF
    refine v_callS (pc := 19) (As := [.int r7]) (rest := []) (st' := [.int r10]) (r := some (.int r10)) (M1 := M11) K (kX11_mustMeet l K.2.2.2.2.2.2.1 hy hc9) (jg_S jl_X11_230 jw_t_X11_mustMeet jw_n_X11 jw_c_X11_mustMeet) rfl rfl rfl jd_X11_mustMeet ⟨Nat.le_of_ble_eq_true rfl, Nat.le_of_ble_eq_true rfl⟩ rfl rfl (Nat.le_of_ble_eq_true rfl) dX11_must_19 rfl ?_
    refine v_if_eq (pc := 22) (tgt := 29) K dX11_must_22 (by decide) hF (fun c12 hF => ?_) (fun c12 hF => ?_)
    · refine v_iconst (pc := 29) (v := 0) K dX11_must_29 rfl ?_
      have hz := (Option.some.inj hF).symm
      subst hz
      exact v_iret (pc := 30) K hQ dX11_must_30
    · refine v_iconst (pc := 25) (v := 1) K dX11_must_25 rfl ?_
      refine v_goto (pc := 26) (tgt := 30) K dX11_must_26 (by decide) ?_
      have hz := (Option.some.inj hF).symm
      subst hz
      exact v_iret (pc := 30) K hQ dX11_must_30
set_option maxRecDepth 100000 in
set_option maxHeartbeats 4000000 in
theorem kX11_must (l : Launch) {y : Ly} (hJ : ly_J y) (hy : y.2.2.2.2 = 0) {M M1 : QM} {r : Int32} {x1 : Int32} (hF : fX11_must M x1 = some (r, M1)) : Met l yX11_must wqX11_must rmX11_must (q_P y [.ref (ly_o y 0), .int x1] M) (q_E y (some (.int r)) M1) 0 0 (ly_A y) :=
  q_met (by decide) rfl hJ rfl rfl rfl (fun x K hQ => bX11_must_0 l K hy (z := (r, M1)) hQ  hF)
-- ===== X11_late (I)I
theorem jd_X11_late : yX11_late.cls = RX11 ∧ yX11_late.cls ≠ "java/lang/invoke/MethodHandle" ∧ yX11_late.cls ≠ "java/lang/invoke/VarHandle" ∧ (parseMethodDescriptor yX11_late.desc).map (fun d => d.parameters.length) = some 1 := by decide +kernel
abbrev wqX11_late : List Cond := .code yX11_late cX11_late 4 (some .int) :: wsL_law
abbrev rmX11_late : Room := { frames := 2, cells := 0, slots := 0, locals := 40 }
def fX11_late_b36 (M : QM) (x3 : Int32) : Option (Int32 × QM) := some (x3 + (1 : Int32), M)
set_option maxRecDepth 100000 in
set_option maxHeartbeats 4000000 in
theorem bX11_late_36 {x : Cx} {y : Ly} (l : Launch) (K : VK x l rmX11_late y 4 cX11_late RX11 wqX11_late) (hy : y.2.2.2.2 = 0) {z : Int32 × QM} (hQ : VQ x y (some (.int z.1)) z.2 (some .int)) {M : QM} {x3 : Int32} (hF : fX11_late_b36 M x3 = some z) : V x y 4 M 36 [(3, .int x3)] [] := by
  unfold fX11_late_b36 at hF
  refine v_iload_n (pc := 36) K dX11_late_36 0 rfl ?_
  refine v_iconst (pc := 37) (v := 1) K dX11_late_37 rfl ?_
  refine v_iadd (pc := 38) K dX11_late_38 ?_
  have hz := (Option.some.inj hF).symm
  subst hz
  exact v_iret (pc := 39) K hQ dX11_late_39
def fX11_late_b17 : Nat → QM → Nat → Int32 → Option (Int32 × QM)
  | 0, _, _, _ => none
  | q + 1, M, o2, x3 => if (q_i M o2 7) ≤ x3 then some ((-2 : Int32), M) else (q_b (fX4_stateAt M o2 x3) fun r7 M8 => (q_b (fX11_mustMeet M8 r7) fun r10 M11 => if r10 = (0 : Int32) then (fX11_late_b17 q M11 o2 (x3 + (1 : Int32))) else (fX11_late_b36 M11 x3)))
set_option maxRecDepth 100000 in
set_option maxHeartbeats 4000000 in
theorem bX11_late_17 {x : Cx} {y : Ly} (l : Launch) (K : VK x l rmX11_late y 4 cX11_late RX11 wqX11_late) (hy : y.2.2.2.2 = 0) {z : Int32 × QM} (hQ : VQ x y (some (.int z.1)) z.2 (some .int)) : ∀ (q : Nat) {M : QM} {o2 : Nat} {x3 : Int32}, kls o2 = 4 →  fX11_late_b17 q M o2 x3 = some z → V x y 4 M 17 [(2, .ref (ly_o y o2)), (3, .int x3)] [] := by
  intro q
  induction q with
  | zero =>
    intro M o2 x3 ho2 hF
    rw [fX11_late_b17] at hF
    cases hF
  | succ q ih =>
    intro M o2 x3 ho2 hF
    rw [fX11_late_b17] at hF
    refine v_iload_n (pc := 17) K dX11_late_17 1 rfl ?_
    refine v_aload_n (pc := 18) K dX11_late_18 0 rfl ?_
    refine gX4_done (pc := 19) K hy ho2 jn_X4 (List.mem_cons_of_mem _ jl_X11_198) dX11_late_19 ?_
    refine v_icmp_ge (pc := 22) (tgt := 46) K dX11_late_22 (by decide) hF (fun c13 hF => ?_) (fun c13 hF => ?_)
    · refine v_bipush (pc := 46) (v := -2) K dX11_late_46 rfl ?_
      have hz := (Option.some.inj hF).symm
      subst hz
      exact v_iret (pc := 48) K hQ dX11_late_48
    · refine v_aload_n (pc := 25) K dX11_late_25 0 rfl ?_
      refine v_iload_n (pc := 26) K dX11_late_26 1 rfl ?_
      obtain ⟨r7, M8, hc6, hF⟩ := q_bE hF
      refine v_callV (pc := 27) (ci := 4) (As := [.int x3]) (rest := []) (st' := [.int r7]) (r := some (.int r7)) (M1 := M8) K (kX4_stateAt l K.2.2.2.2.2.2.1 hy ho2 hc6) (jg_V jl_X11_233 jw_i_X4_stateAt jw_s_X4_stateAt jw_n_X4 jw_c_X4_stateAt) rfl rfl rfl jd_X4_stateAt ⟨Nat.le_of_ble_eq_true rfl, Nat.le_of_ble_eq_true rfl⟩ rfl rfl (Nat.le_of_ble_eq_true rfl) ho2 (okc_0 hy (by decide)) rfl dX11_late_27 rfl ?_
      obtain ⟨r10, M11, hc9, hF⟩ := q_bE hF
      refine v_callS (pc := 30) (As := [.int r7]) (rest := []) (st' := [.int r10]) (r := some (.int r10)) (M1 := M11) K (kX11_mustMeet l K.2.2.2.2.2.2.1 hy hc9) (jg_S jl_X11_230 jw_t_X11_mustMeet jw_n_X11 jw_c_X11_mustMeet) rfl rfl rfl jd_X11_mustMeet ⟨Nat.le_of_ble_eq_true rfl, Nat.le_of_ble_eq_true rfl⟩ rfl rfl (Nat.le_of_ble_eq_true rfl) dX11_late_30 rfl ?_
      refine v_if_eq (pc := 33) (tgt := 40) K dX11_late_33 (by decide) hF (fun c12 hF => ?_) (fun c12 hF => ?_)
      · refine v_iinc (pc := 40) (v1 := x3 + (1 : Int32)) (lv' := [(3, .int (x3 + (1 : Int32))), (2, .ref (ly_o y o2))]) K dX11_late_40 1 rfl rfl (by decide) rfl ?_
        refine v_goto (pc := 43) (tgt := 17) K dX11_late_43 (by decide) ?_
        refine v_sub [1, 0] rfl ?_
        exact ih ho2 hF
      · refine v_sub [1] rfl ?_
        exact bX11_late_36 l K hy hQ hF
def fX11_late (M : QM) (x1 : Int32) : Option (Int32 × QM) := (q_b (fX1_quarrelAt M 20 x1) fun r2 M3 => q_o r2 (some ((-1 : Int32), M3)) fun o4 => (if kls o4 = 4 then (fX11_late_b17 q_F M3 o4 (0 : Int32)) else none))
set_option maxRecDepth 100000 in
set_option maxHeartbeats 4000000 in
theorem bX11_late_0 {x : Cx} {y : Ly} (l : Launch) (K : VK x l rmX11_late y 4 cX11_late RX11 wqX11_late) (hy : y.2.2.2.2 = 0) {z : Int32 × QM} (hQ : VQ x y (some (.int z.1)) z.2 (some .int)) {M : QM} {x1 : Int32} (hF : fX11_late M x1 = some z) : V x y 4 M 0 [(0, .ref (ly_o y 0)), (1, .int x1)] [] := by
  unfold fX11_late at hF
  refine v_aload_n (pc := 0) K dX11_late_0 0 rfl ?_
  refine gX11_book (pc := 1) K hy (by decide) jn_X11 (List.mem_cons_of_mem _ jl_X11_37) dX11_late_1 ?_
  refine v_iload_n (pc := 4) K dX11_late_4 1 rfl ?_
  obtain ⟨r2, M3, hc1, hF⟩ := q_bE hF
  cases r2 with
  | none =>
    refine v_callV (pc := 5) (ci := 1) (As := [.int x1]) (rest := []) (st' := [.null]) (r := some .null) (M1 := M3) K (kX1_quarrelAt l K.2.2.2.2.2.2.1 hy (by decide) hc1) (jg_V jl_X11_157 jw_i_X1_quarrelAt jw_s_X1_quarrelAt jw_n_X1 jw_c_X1_quarrelAt) rfl rfl rfl jd_X1_quarrelAt ⟨Nat.le_of_ble_eq_true rfl, Nat.le_of_ble_eq_true rfl⟩ rfl rfl (Nat.le_of_ble_eq_true rfl) (by decide) (okc_0 hy (by decide)) rfl dX11_late_5 rfl ?_
    refine v_astore_nN (pc := 8) (lv' := [(2, .null), (0, .ref (ly_o y 0)), (1, .int x1)]) K dX11_late_8 2 rfl (by decide) rfl ?_
    refine v_aload_nN (pc := 9) K dX11_late_9 0 rfl ?_
    refine v_ifnonnullN (pc := 10) K dX11_late_10 ?_
    refine v_iconst (pc := 13) (v := -1) K dX11_late_13 rfl ?_
    have hz := (Option.some.inj hF).symm
    subst hz
    exact v_iret (pc := 14) K hQ dX11_late_14
  | some o4 =>
    obtain ⟨ho5, hF⟩ := q_kE hF
    refine v_callV (pc := 5) (ci := 1) (As := [.int x1]) (rest := []) (st' := [.ref (ly_o y o4)]) (r := some (.ref (ly_o y o4))) (M1 := M3) K (kX1_quarrelAt l K.2.2.2.2.2.2.1 hy (by decide) hc1) (jg_V jl_X11_157 jw_i_X1_quarrelAt jw_s_X1_quarrelAt jw_n_X1 jw_c_X1_quarrelAt) rfl rfl rfl jd_X1_quarrelAt ⟨Nat.le_of_ble_eq_true rfl, Nat.le_of_ble_eq_true rfl⟩ rfl rfl (Nat.le_of_ble_eq_true rfl) (by decide) (okc_0 hy (by decide)) rfl dX11_late_5 rfl ?_
    refine v_astore_n (pc := 8) (lv' := [(2, .ref (ly_o y o4)), (0, .ref (ly_o y 0)), (1, .int x1)]) K dX11_late_8 2 rfl (by decide) rfl ?_
    refine v_aload_n (pc := 9) K dX11_late_9 0 rfl ?_
    refine v_ifnonnull (pc := 10) (tgt := 15) K dX11_late_10 (by decide) ?_
    refine v_iconst (pc := 15) (v := 0) K dX11_late_15 rfl ?_
    refine v_istore_n (pc := 16) (lv' := [(3, .int (0 : Int32)), (2, .ref (ly_o y o4)), (0, .ref (ly_o y 0)), (1, .int x1)]) K dX11_late_16 3 rfl (by decide) rfl ?_
    refine v_sub [1, 0] rfl ?_
    exact bX11_late_17 l K hy hQ q_F ho5 hF
set_option maxRecDepth 100000 in
set_option maxHeartbeats 4000000 in
theorem kX11_late (l : Launch) {y : Ly} (hJ : ly_J y) (hy : y.2.2.2.2 = 0) {M M1 : QM} {r : Int32} {x1 : Int32} (hF : fX11_late M x1 = some (r, M1)) : Met l yX11_late wqX11_late rmX11_late (q_P y [.ref (ly_o y 0), .int x1] M) (q_E y (some (.int r)) M1) 0 0 (ly_A y) :=
  q_met (by decide) rfl hJ rfl rfl rfl (fun x K hQ => bX11_late_0 l K hy (z := (r, M1)) hQ  hF)
-- ===== X11_game (II)I
theorem jd_X11_game : yX11_game.cls = RX11 ∧ yX11_game.cls ≠ "java/lang/invoke/MethodHandle" ∧ yX11_game.cls ≠ "java/lang/invoke/VarHandle" ∧ (parseMethodDescriptor yX11_game.desc).map (fun d => d.parameters.length) = some 2 := by decide +kernel
abbrev wqX11_game : List Cond := .code yX11_game cX11_game 5 (some .int) :: wsL_law
abbrev rmX11_game : Room := { frames := 21, cells := 0, slots := 0, locals := 601 }
def fX11_game (M : QM) (x1 : Int32) (x2 : Int32) : Option (Int32 × QM) := (q_b (fX1_quarrelAt M 20 x1) fun r2 M3 => q_o r2 (some ((-1 : Int32), M3)) fun o4 => (if kls o4 = 4 then (q_b (fX11_isWithin M3 x2 (0 : Int32) (1 : Int32)) fun r7 M8 => if r7 ≠ (0 : Int32) then (q_bv (fX11_study M8 o4) fun M11 => (q_b (fX4_now M11 o4) fun r13 M14 => (q_bv (fX3_begin M14) fun M17 => if x2 ≠ (0 : Int32) then (q_b (fX7_ending M17 r13) fun r19 M20 => if r19 ≠ (0 : Int32) then some ((-1 : Int32), M20) else (q_b (fX3_moveFrom M20 r13) fun r22 M23 => some (r22, M23))) else (q_b (fX3_outcomeFrom M17 r13) fun r26 M27 => some (r26, M27))))) else some ((-1 : Int32), M8)) else none))
set_option maxRecDepth 100000 in
set_option maxHeartbeats 4000000 in
theorem bX11_game_0 {x : Cx} {y : Ly} (l : Launch) (K : VK x l rmX11_game y 5 cX11_game RX11 wqX11_game) (hy : y.2.2.2.2 = 0) {z : Int32 × QM} (hQ : VQ x y (some (.int z.1)) z.2 (some .int)) {M : QM} {x1 : Int32} {x2 : Int32} (hF : fX11_game M x1 x2 = some z) : V x y 5 M 0 [(0, .ref (ly_o y 0)), (1, .int x1), (2, .int x2)] [] := by
  unfold fX11_game at hF
  refine v_aload_n (pc := 0) K dX11_game_0 0 rfl ?_
  refine gX11_book (pc := 1) K hy (by decide) jn_X11 (List.mem_cons_of_mem _ jl_X11_37) dX11_game_1 ?_
  refine v_iload_n (pc := 4) K dX11_game_4 1 rfl ?_
  obtain ⟨r2, M3, hc1, hF⟩ := q_bE hF
  cases r2 with
  | none =>
    refine v_callV (pc := 5) (ci := 1) (As := [.int x1]) (rest := []) (st' := [.null]) (r := some .null) (M1 := M3) K (kX1_quarrelAt l K.2.2.2.2.2.2.1 hy (by decide) hc1) (jg_V jl_X11_157 jw_i_X1_quarrelAt jw_s_X1_quarrelAt jw_n_X1 jw_c_X1_quarrelAt) rfl rfl rfl jd_X1_quarrelAt ⟨Nat.le_of_ble_eq_true rfl, Nat.le_of_ble_eq_true rfl⟩ rfl rfl (Nat.le_of_ble_eq_true rfl) (by decide) (okc_0 hy (by decide)) rfl dX11_game_5 rfl ?_
    refine v_astore_nN (pc := 8) (lv' := [(3, .null), (0, .ref (ly_o y 0)), (1, .int x1), (2, .int x2)]) K dX11_game_8 3 rfl (by decide) rfl ?_
    refine v_aload_nN (pc := 9) K dX11_game_9 0 rfl ?_
    refine v_ifnullN (pc := 10) (tgt := 22) K dX11_game_10 (by decide) ?_
    refine v_iconst (pc := 22) (v := -1) K dX11_game_22 rfl ?_
    have hz := (Option.some.inj hF).symm
    subst hz
    exact v_iret (pc := 23) K hQ dX11_game_23
  | some o4 =>
    obtain ⟨ho5, hF⟩ := q_kE hF
    refine v_callV (pc := 5) (ci := 1) (As := [.int x1]) (rest := []) (st' := [.ref (ly_o y o4)]) (r := some (.ref (ly_o y o4))) (M1 := M3) K (kX1_quarrelAt l K.2.2.2.2.2.2.1 hy (by decide) hc1) (jg_V jl_X11_157 jw_i_X1_quarrelAt jw_s_X1_quarrelAt jw_n_X1 jw_c_X1_quarrelAt) rfl rfl rfl jd_X1_quarrelAt ⟨Nat.le_of_ble_eq_true rfl, Nat.le_of_ble_eq_true rfl⟩ rfl rfl (Nat.le_of_ble_eq_true rfl) (by decide) (okc_0 hy (by decide)) rfl dX11_game_5 rfl ?_
    refine v_astore_n (pc := 8) (lv' := [(3, .ref (ly_o y o4)), (0, .ref (ly_o y 0)), (1, .int x1), (2, .int x2)]) K dX11_game_8 3 rfl (by decide) rfl ?_
    refine v_aload_n (pc := 9) K dX11_game_9 0 rfl ?_
    refine v_ifnull (pc := 10) K dX11_game_10 ?_
    refine v_iload_n (pc := 13) K dX11_game_13 3 rfl ?_
    refine v_iconst (pc := 14) (v := 0) K dX11_game_14 rfl ?_
    refine v_iconst (pc := 15) (v := 1) K dX11_game_15 rfl ?_
    obtain ⟨r7, M8, hc6, hF⟩ := q_bE hF
    refine v_callS (pc := 16) (As := [.int x2, .int (0 : Int32), .int (1 : Int32)]) (rest := []) (st' := [.int r7]) (r := some (.int r7)) (M1 := M8) K (kX11_isWithin l K.2.2.2.2.2.2.1 hy hc6) (jg_S jl_X11_73 jw_t_X11_isWithin jw_n_X11 jw_c_X11_isWithin) rfl rfl rfl jd_X11_isWithin ⟨Nat.le_of_ble_eq_true rfl, Nat.le_of_ble_eq_true rfl⟩ rfl rfl (Nat.le_of_ble_eq_true rfl) dX11_game_16 rfl ?_
    refine v_if_ne (pc := 19) (tgt := 24) K dX11_game_19 (by decide) hF (fun c29 hF => ?_) (fun c29 hF => ?_)
    · refine v_aload_n (pc := 24) K dX11_game_24 1 rfl ?_
      refine v_aload_n (pc := 25) K dX11_game_25 0 rfl ?_
      obtain ⟨M11, hc9, hF⟩ := q_bvE hF
      refine v_callV (pc := 26) (ci := 10) (As := [.ref (ly_o y o4)]) (rest := []) (st' := []) (r := none) (M1 := M11) K (kX11_study l K.2.2.2.2.2.2.1 hy ho5 hc9) (jg_V jl_X11_161 jw_i_X11_study jw_s_X11_study jw_n_X11 jw_c_X11_study) rfl rfl rfl jd_X11_study ⟨Nat.le_of_ble_eq_true rfl, Nat.le_of_ble_eq_true rfl⟩ rfl rfl (Nat.le_of_ble_eq_true rfl) (by decide) (okc_0 hy (by decide)) rfl dX11_game_26 rfl ?_
      refine v_aload_n (pc := 29) K dX11_game_29 0 rfl ?_
      obtain ⟨r13, M14, hc12, hF⟩ := q_bE hF
      refine v_callV (pc := 30) (ci := 4) (As := []) (rest := []) (st' := [.int r13]) (r := some (.int r13)) (M1 := M14) K (kX4_now l K.2.2.2.2.2.2.1 hy ho5 hc12) (jg_V jl_X11_173 jw_i_X4_now jw_s_X4_now jw_n_X4 jw_c_X4_now) rfl rfl rfl jd_X4_now ⟨Nat.le_of_ble_eq_true rfl, Nat.le_of_ble_eq_true rfl⟩ rfl rfl (Nat.le_of_ble_eq_true rfl) ho5 (okc_0 hy (by decide)) rfl dX11_game_30 rfl ?_
      refine v_istore (pc := 33) (lv' := [(4, .int r13), (3, .ref (ly_o y o4)), (0, .ref (ly_o y 0)), (1, .int x1), (2, .int x2)]) K 4 dX11_game_33 (by decide) rfl ?_
      refine v_aload_n (pc := 35) K dX11_game_35 2 rfl ?_
      refine gX11_play (pc := 36) K hy (by decide) jn_X11 (List.mem_cons_of_mem _ jl_X11_62) dX11_game_36 ?_
      obtain ⟨M17, hc15, hF⟩ := q_bvE hF
      refine v_callV (pc := 39) (ci := 3) (As := []) (rest := []) (st' := []) (r := none) (M1 := M17) K (kX3_begin l K.2.2.2.2.2.2.1 hy hc15) (jg_V jl_X11_236 jw_i_X3_begin jw_s_X3_begin jw_n_X3 jw_c_X3_begin) rfl rfl rfl jd_X3_begin ⟨Nat.le_of_ble_eq_true rfl, Nat.le_of_ble_eq_true rfl⟩ rfl rfl (Nat.le_of_ble_eq_true rfl) (by decide) (okc_0 hy (by decide)) rfl dX11_game_39 rfl ?_
      refine v_iload_n (pc := 42) K dX11_game_42 4 rfl ?_
      refine v_if_ne (pc := 43) (tgt := 60) K dX11_game_43 (by decide) hF (fun c28 hF => ?_) (fun c28 hF => ?_)
      · refine v_iload (pc := 60) K dX11_game_60 0 rfl ?_
        obtain ⟨r19, M20, hc18, hF⟩ := q_bE hF
        refine v_callS (pc := 62) (As := [.int r13]) (rest := []) (st' := [.int r19]) (r := some (.int r19)) (M1 := M20) K (kX7_ending l K.2.2.2.2.2.2.1 hy hc18) (jg_S jl_X11_177 jw_t_X7_ending jw_n_X7 jw_c_X7_ending) rfl rfl rfl jd_X7_ending ⟨Nat.le_of_ble_eq_true rfl, Nat.le_of_ble_eq_true rfl⟩ rfl rfl (Nat.le_of_ble_eq_true rfl) dX11_game_62 rfl ?_
        refine v_if_ne (pc := 65) (tgt := 84) K dX11_game_65 (by decide) hF (fun c24 hF => ?_) (fun c24 hF => ?_)
        · refine v_iconst (pc := 84) (v := -1) K dX11_game_84 rfl ?_
          have hz := (Option.some.inj hF).symm
          subst hz
          exact v_iret (pc := 85) K hQ dX11_game_85
        · refine v_aload_n (pc := 68) K dX11_game_68 2 rfl ?_
          refine gX11_play (pc := 69) K hy (by decide) jn_X11 (List.mem_cons_of_mem _ jl_X11_62) dX11_game_69 ?_
          refine v_aload_n (pc := 72) K dX11_game_72 2 rfl ?_
          refine gX11_affair (pc := 73) K hy (by decide) jn_X11 (List.mem_cons_of_mem _ jl_X11_55) dX11_game_73 ?_
          refine v_iload (pc := 76) K dX11_game_76 0 rfl ?_
          obtain ⟨r22, M23, hc21, hF⟩ := q_bE hF
          refine v_callV (pc := 78) (ci := 3) (As := [.ref (ly_o y 4), .int r13]) (rest := []) (st' := [.int r22]) (r := some (.int r22)) (M1 := M23) K (kX3_moveFrom l K.2.2.2.2.2.2.1 hy hc21) (jg_V jl_X11_243 jw_i_X3_moveFrom jw_s_X3_moveFrom jw_n_X3 jw_c_X3_moveFrom) rfl rfl rfl jd_X3_moveFrom ⟨Nat.le_of_ble_eq_true rfl, Nat.le_of_ble_eq_true rfl⟩ rfl rfl (Nat.le_of_ble_eq_true rfl) (by decide) (okc_0 hy (by decide)) rfl dX11_game_78 rfl ?_
          refine v_goto (pc := 81) (tgt := 85) K dX11_game_81 (by decide) ?_
          have hz := (Option.some.inj hF).symm
          subst hz
          exact v_iret (pc := 85) K hQ dX11_game_85
      · refine v_aload_n (pc := 46) K dX11_game_46 2 rfl ?_
        refine gX11_play (pc := 47) K hy (by decide) jn_X11 (List.mem_cons_of_mem _ jl_X11_62) dX11_game_47 ?_
        refine v_aload_n (pc := 50) K dX11_game_50 2 rfl ?_
        refine gX11_affair (pc := 51) K hy (by decide) jn_X11 (List.mem_cons_of_mem _ jl_X11_55) dX11_game_51 ?_
        refine v_iload (pc := 54) K dX11_game_54 0 rfl ?_
        obtain ⟨r26, M27, hc25, hF⟩ := q_bE hF
        refine v_callV (pc := 56) (ci := 3) (As := [.ref (ly_o y 4), .int r13]) (rest := []) (st' := [.int r26]) (r := some (.int r26)) (M1 := M27) K (kX3_outcomeFrom l K.2.2.2.2.2.2.1 hy hc25) (jg_V jl_X11_239 jw_i_X3_outcomeFrom jw_s_X3_outcomeFrom jw_n_X3 jw_c_X3_outcomeFrom) rfl rfl rfl jd_X3_outcomeFrom ⟨Nat.le_of_ble_eq_true rfl, Nat.le_of_ble_eq_true rfl⟩ rfl rfl (Nat.le_of_ble_eq_true rfl) (by decide) (okc_0 hy (by decide)) rfl dX11_game_56 rfl ?_
        have hz := (Option.some.inj hF).symm
        subst hz
        exact v_iret (pc := 59) K hQ dX11_game_59
    · refine v_iconst (pc := 22) (v := -1) K dX11_game_22 rfl ?_
      have hz := (Option.some.inj hF).symm
      subst hz
      exact v_iret (pc := 23) K hQ dX11_game_23
set_option maxRecDepth 100000 in
set_option maxHeartbeats 4000000 in
theorem kX11_game (l : Launch) {y : Ly} (hJ : ly_J y) (hy : y.2.2.2.2 = 0) {M M1 : QM} {r : Int32} {x1 : Int32} {x2 : Int32} (hF : fX11_game M x1 x2 = some (r, M1)) : Met l yX11_game wqX11_game rmX11_game (q_P y [.ref (ly_o y 0), .int x1, .int x2] M) (q_E y (some (.int r)) M1) 0 0 (ly_A y) :=
  q_met (by decide) rfl hJ rfl rfl rfl (fun x K hQ => bX11_game_0 l K hy (z := (r, M1)) hQ  hF)
-- ===== X11_otherwise (III)I
theorem jd_X11_otherwise : yX11_otherwise.cls = RX11 ∧ yX11_otherwise.cls ≠ "java/lang/invoke/MethodHandle" ∧ yX11_otherwise.cls ≠ "java/lang/invoke/VarHandle" ∧ (parseMethodDescriptor yX11_otherwise.desc).map (fun d => d.parameters.length) = some 3 := by decide +kernel
abbrev wqX11_otherwise : List Cond := .code yX11_otherwise cX11_otherwise 8 (some .int) :: wsL_law
abbrev rmX11_otherwise : Room := { frames := 21, cells := 0, slots := 0, locals := 601 }
def fX11_otherwise_b145 (M : QM) (x6 : Int32) : Option (Int32 × QM) := (q_bv (fX3_begin M) fun M41 => (q_b (fX3_outcomeFrom M41 x6) fun r43 M44 => some (r43, M44)))
set_option maxRecDepth 100000 in
set_option maxHeartbeats 4000000 in
theorem bX11_otherwise_145 {x : Cx} {y : Ly} (l : Launch) (K : VK x l rmX11_otherwise y 8 cX11_otherwise RX11 wqX11_otherwise) (hy : y.2.2.2.2 = 0) {z : Int32 × QM} (hQ : VQ x y (some (.int z.1)) z.2 (some .int)) {M : QM} {x6 : Int32} (hF : fX11_otherwise_b145 M x6 = some z) : V x y 8 M 145 [(0, .ref (ly_o y 0)), (6, .int x6)] [] := by
  unfold fX11_otherwise_b145 at hF
  refine v_aload_n (pc := 145) K dX11_otherwise_145 0 rfl ?_
  refine gX11_play (pc := 146) K hy (by decide) jn_X11 (List.mem_cons_of_mem _ jl_X11_62) dX11_otherwise_146 ?_
  obtain ⟨M41, hc39, hF⟩ := q_bvE hF
  refine v_callV (pc := 149) (ci := 3) (As := []) (rest := []) (st' := []) (r := none) (M1 := M41) K (kX3_begin l K.2.2.2.2.2.2.1 hy hc39) (jg_V jl_X11_236 jw_i_X3_begin jw_s_X3_begin jw_n_X3 jw_c_X3_begin) rfl rfl rfl jd_X3_begin ⟨Nat.le_of_ble_eq_true rfl, Nat.le_of_ble_eq_true rfl⟩ rfl rfl (Nat.le_of_ble_eq_true rfl) (by decide) (okc_0 hy (by decide)) rfl dX11_otherwise_149 rfl ?_
  refine v_aload_n (pc := 152) K dX11_otherwise_152 0 rfl ?_
  refine gX11_play (pc := 153) K hy (by decide) jn_X11 (List.mem_cons_of_mem _ jl_X11_62) dX11_otherwise_153 ?_
  refine v_aload_n (pc := 156) K dX11_otherwise_156 0 rfl ?_
  refine gX11_affair (pc := 157) K hy (by decide) jn_X11 (List.mem_cons_of_mem _ jl_X11_55) dX11_otherwise_157 ?_
  refine v_iload (pc := 160) K dX11_otherwise_160 1 rfl ?_
  obtain ⟨r43, M44, hc42, hF⟩ := q_bE hF
  refine v_callV (pc := 162) (ci := 3) (As := [.ref (ly_o y 4), .int x6]) (rest := []) (st' := [.int r43]) (r := some (.int r43)) (M1 := M44) K (kX3_outcomeFrom l K.2.2.2.2.2.2.1 hy hc42) (jg_V jl_X11_239 jw_i_X3_outcomeFrom jw_s_X3_outcomeFrom jw_n_X3 jw_c_X3_outcomeFrom) rfl rfl rfl jd_X3_outcomeFrom ⟨Nat.le_of_ble_eq_true rfl, Nat.le_of_ble_eq_true rfl⟩ rfl rfl (Nat.le_of_ble_eq_true rfl) (by decide) (okc_0 hy (by decide)) rfl dX11_otherwise_162 rfl ?_
  have hz := (Option.some.inj hF).symm
  subst hz
  exact v_iret (pc := 165) K hQ dX11_otherwise_165
def fX11_otherwise_b91 : Nat → QM → Nat → Int32 → Int32 → Option (Int32 × QM)
  | 0, _, _, _, _ => none
  | q + 1, M, o4, x6, x7 => if (q_i M o4 7) ≤ x7 then (fX11_otherwise_b145 M x6) else (q_b (fX4_moveAt M o4 x7) fun r26 M27 => (q_b (fX0_allows M27 x6 r26) fun r29 M30 => if r29 = (0 : Int32) then (fX11_otherwise_b145 M30 x6) else (q_b (fX4_moveAt M30 o4 x7) fun r32 M33 => (q_b (fX0_after M33 x6 r32 (1 : Int32)) fun r35 M36 => (fX11_otherwise_b91 q M36 o4 r35 (x7 + (1 : Int32)))))))
set_option maxRecDepth 100000 in
set_option maxHeartbeats 4000000 in
theorem bX11_otherwise_91 {x : Cx} {y : Ly} (l : Launch) (K : VK x l rmX11_otherwise y 8 cX11_otherwise RX11 wqX11_otherwise) (hy : y.2.2.2.2 = 0) {z : Int32 × QM} (hQ : VQ x y (some (.int z.1)) z.2 (some .int)) : ∀ (q : Nat) {M : QM} {o4 : Nat} {x6 : Int32} {x7 : Int32}, kls o4 = 4 →  fX11_otherwise_b91 q M o4 x6 x7 = some z → V x y 8 M 91 [(0, .ref (ly_o y 0)), (4, .ref (ly_o y o4)), (6, .int x6), (7, .int x7)] [] := by
  intro q
  induction q with
  | zero =>
    intro M o4 x6 x7 ho4 hF
    rw [fX11_otherwise_b91] at hF
    cases hF
  | succ q ih =>
    intro M o4 x6 x7 ho4 hF
    rw [fX11_otherwise_b91] at hF
    refine v_iload (pc := 91) K dX11_otherwise_91 3 rfl ?_
    refine v_aload (pc := 93) K dX11_otherwise_93 1 rfl ?_
    refine gX4_done (pc := 95) K hy ho4 jn_X4 (List.mem_cons_of_mem _ jl_X11_198) dX11_otherwise_95 ?_
    refine v_icmp_ge (pc := 98) (tgt := 145) K dX11_otherwise_98 (by decide) hF (fun c38 hF => ?_) (fun c38 hF => ?_)
    · refine v_sub [0, 2] rfl ?_
      exact bX11_otherwise_145 l K hy hQ hF
    · refine v_aload_n (pc := 101) K dX11_otherwise_101 0 rfl ?_
      refine gX11_affair (pc := 102) K hy (by decide) jn_X11 (List.mem_cons_of_mem _ jl_X11_55) dX11_otherwise_102 ?_
      refine v_iload (pc := 105) K dX11_otherwise_105 2 rfl ?_
      refine v_aload (pc := 107) K dX11_otherwise_107 1 rfl ?_
      refine v_iload (pc := 109) K dX11_otherwise_109 3 rfl ?_
      obtain ⟨r26, M27, hc25, hF⟩ := q_bE hF
      refine v_callV (pc := 111) (ci := 4) (As := [.int x7]) (rest := [.int x6, .ref (ly_o y 4)]) (st' := [.int r26, .int x6, .ref (ly_o y 4)]) (r := some (.int r26)) (M1 := M27) K (kX4_moveAt l K.2.2.2.2.2.2.1 hy ho4 hc25) (jg_V jl_X11_208 jw_i_X4_moveAt jw_s_X4_moveAt jw_n_X4 jw_c_X4_moveAt) rfl rfl rfl jd_X4_moveAt ⟨Nat.le_of_ble_eq_true rfl, Nat.le_of_ble_eq_true rfl⟩ rfl rfl (Nat.le_of_ble_eq_true rfl) ho4 (okc_0 hy (by decide)) rfl dX11_otherwise_111 rfl ?_
      obtain ⟨r29, M30, hc28, hF⟩ := q_bE hF
      refine v_callV (pc := 114) (ci := 0) (As := [.int x6, .int r26]) (rest := []) (st' := [.int r29]) (r := some (.int r29)) (M1 := M30) K (kX0_allows l K.2.2.2.2.2.2.1 hy hc28) (jg_V jl_X11_201 jw_i_X0_allows jw_s_X0_allows jw_n_X0 jw_c_X0_allows) rfl rfl rfl jd_X0_allows ⟨Nat.le_of_ble_eq_true rfl, Nat.le_of_ble_eq_true rfl⟩ rfl rfl (Nat.le_of_ble_eq_true rfl) (by decide) (okc_0 hy (by decide)) rfl dX11_otherwise_114 rfl ?_
      refine v_if_eq (pc := 117) (tgt := 145) K dX11_otherwise_117 (by decide) hF (fun c37 hF => ?_) (fun c37 hF => ?_)
      · refine v_sub [0, 2] rfl ?_
        exact bX11_otherwise_145 l K hy hQ hF
      · refine v_aload_n (pc := 120) K dX11_otherwise_120 0 rfl ?_
        refine gX11_affair (pc := 121) K hy (by decide) jn_X11 (List.mem_cons_of_mem _ jl_X11_55) dX11_otherwise_121 ?_
        refine v_iload (pc := 124) K dX11_otherwise_124 2 rfl ?_
        refine v_aload (pc := 126) K dX11_otherwise_126 1 rfl ?_
        refine v_iload (pc := 128) K dX11_otherwise_128 3 rfl ?_
        obtain ⟨r32, M33, hc31, hF⟩ := q_bE hF
        refine v_callV (pc := 130) (ci := 4) (As := [.int x7]) (rest := [.int x6, .ref (ly_o y 4)]) (st' := [.int r32, .int x6, .ref (ly_o y 4)]) (r := some (.int r32)) (M1 := M33) K (kX4_moveAt l K.2.2.2.2.2.2.1 hy ho4 hc31) (jg_V jl_X11_208 jw_i_X4_moveAt jw_s_X4_moveAt jw_n_X4 jw_c_X4_moveAt) rfl rfl rfl jd_X4_moveAt ⟨Nat.le_of_ble_eq_true rfl, Nat.le_of_ble_eq_true rfl⟩ rfl rfl (Nat.le_of_ble_eq_true rfl) ho4 (okc_0 hy (by decide)) rfl dX11_otherwise_130 rfl ?_
        refine v_iconst (pc := 133) (v := 1) K dX11_otherwise_133 rfl ?_
        obtain ⟨r35, M36, hc34, hF⟩ := q_bE hF
        refine v_callV (pc := 134) (ci := 0) (As := [.int x6, .int r32, .int (1 : Int32)]) (rest := []) (st' := [.int r35]) (r := some (.int r35)) (M1 := M36) K (kX0_after l K.2.2.2.2.2.2.1 hy hc34) (jg_V jl_X11_204 jw_i_X0_after jw_s_X0_after jw_n_X0 jw_c_X0_after) rfl rfl rfl jd_X0_after ⟨Nat.le_of_ble_eq_true rfl, Nat.le_of_ble_eq_true rfl⟩ rfl rfl (Nat.le_of_ble_eq_true rfl) (by decide) (okc_0 hy (by decide)) rfl dX11_otherwise_134 rfl ?_
        refine v_istore (pc := 137) (lv' := [(6, .int r35), (0, .ref (ly_o y 0)), (4, .ref (ly_o y o4)), (7, .int x7)]) K 6 dX11_otherwise_137 (by decide) rfl ?_
        refine v_iinc (pc := 139) (v1 := x7 + (1 : Int32)) (lv' := [(7, .int (x7 + (1 : Int32))), (6, .int r35), (0, .ref (ly_o y 0)), (4, .ref (ly_o y o4))]) K dX11_otherwise_139 3 rfl rfl (by decide) rfl ?_
        refine v_goto (pc := 142) (tgt := 91) K dX11_otherwise_142 (by decide) ?_
        refine v_sub [2, 3, 1, 0] rfl ?_
        exact ih ho4 hF
def fX11_otherwise (M : QM) (x1 : Int32) (x2 : Int32) (x3 : Int32) : Option (Int32 × QM) := (q_b (fX1_quarrelAt M 20 x1) fun r2 M3 => q_o r2 (some ((-1 : Int32), M3)) fun o4 => (if kls o4 = 4 then if x2 < (1 : Int32) then some ((-1 : Int32), M3) else if (q_i M3 o4 7) ≤ x2 then some ((-1 : Int32), M3) else (q_b (fX11_isWithin M3 x3 (0 : Int32) (10 : Int32)) fun r7 M8 => if r7 ≠ (0 : Int32) then (q_bv (fX11_study M8 o4) fun M11 => (q_b (fX4_stateAt M11 o4 (x2 - (1 : Int32))) fun r13 M14 => (q_b (fX0_allows M14 r13 x3) fun r16 M17 => if r16 ≠ (0 : Int32) then (q_b (fX0_after M17 r13 x3 (1 : Int32)) fun r19 M20 => (fX11_otherwise_b91 q_F M20 o4 r19 (x2 + (1 : Int32)))) else some ((-2 : Int32), M17)))) else some ((-1 : Int32), M8)) else none))
set_option maxRecDepth 100000 in
set_option maxHeartbeats 4000000 in
theorem bX11_otherwise_0 {x : Cx} {y : Ly} (l : Launch) (K : VK x l rmX11_otherwise y 8 cX11_otherwise RX11 wqX11_otherwise) (hy : y.2.2.2.2 = 0) {z : Int32 × QM} (hQ : VQ x y (some (.int z.1)) z.2 (some .int)) {M : QM} {x1 : Int32} {x2 : Int32} {x3 : Int32} (hF : fX11_otherwise M x1 x2 x3 = some z) : V x y 8 M 0 [(0, .ref (ly_o y 0)), (1, .int x1), (2, .int x2), (3, .int x3)] [] := by
  unfold fX11_otherwise at hF
  refine v_aload_n (pc := 0) K dX11_otherwise_0 0 rfl ?_
  refine gX11_book (pc := 1) K hy (by decide) jn_X11 (List.mem_cons_of_mem _ jl_X11_37) dX11_otherwise_1 ?_
  refine v_iload_n (pc := 4) K dX11_otherwise_4 1 rfl ?_
  obtain ⟨r2, M3, hc1, hF⟩ := q_bE hF
  cases r2 with
  | none =>
    refine v_callV (pc := 5) (ci := 1) (As := [.int x1]) (rest := []) (st' := [.null]) (r := some .null) (M1 := M3) K (kX1_quarrelAt l K.2.2.2.2.2.2.1 hy (by decide) hc1) (jg_V jl_X11_157 jw_i_X1_quarrelAt jw_s_X1_quarrelAt jw_n_X1 jw_c_X1_quarrelAt) rfl rfl rfl jd_X1_quarrelAt ⟨Nat.le_of_ble_eq_true rfl, Nat.le_of_ble_eq_true rfl⟩ rfl rfl (Nat.le_of_ble_eq_true rfl) (by decide) (okc_0 hy (by decide)) rfl dX11_otherwise_5 rfl ?_
    refine v_astoreN (pc := 8) (lv' := [(4, .null), (0, .ref (ly_o y 0)), (1, .int x1), (2, .int x2), (3, .int x3)]) K 4 dX11_otherwise_8 (by decide) rfl ?_
    refine v_aloadN (pc := 10) K dX11_otherwise_10 0 rfl ?_
    refine v_ifnullN (pc := 12) (tgt := 39) K dX11_otherwise_12 (by decide) ?_
    refine v_iconst (pc := 39) (v := -1) K dX11_otherwise_39 rfl ?_
    have hz := (Option.some.inj hF).symm
    subst hz
    exact v_iret (pc := 40) K hQ dX11_otherwise_40
  | some o4 =>
    obtain ⟨ho5, hF⟩ := q_kE hF
    refine v_callV (pc := 5) (ci := 1) (As := [.int x1]) (rest := []) (st' := [.ref (ly_o y o4)]) (r := some (.ref (ly_o y o4))) (M1 := M3) K (kX1_quarrelAt l K.2.2.2.2.2.2.1 hy (by decide) hc1) (jg_V jl_X11_157 jw_i_X1_quarrelAt jw_s_X1_quarrelAt jw_n_X1 jw_c_X1_quarrelAt) rfl rfl rfl jd_X1_quarrelAt ⟨Nat.le_of_ble_eq_true rfl, Nat.le_of_ble_eq_true rfl⟩ rfl rfl (Nat.le_of_ble_eq_true rfl) (by decide) (okc_0 hy (by decide)) rfl dX11_otherwise_5 rfl ?_
    refine v_astore (pc := 8) (lv' := [(4, .ref (ly_o y o4)), (0, .ref (ly_o y 0)), (1, .int x1), (2, .int x2), (3, .int x3)]) K 4 dX11_otherwise_8 (by decide) rfl ?_
    refine v_aload (pc := 10) K dX11_otherwise_10 0 rfl ?_
    refine v_ifnull (pc := 12) K dX11_otherwise_12 ?_
    refine v_iload_n (pc := 15) K dX11_otherwise_15 3 rfl ?_
    refine v_iconst (pc := 16) (v := 1) K dX11_otherwise_16 rfl ?_
    refine v_icmp_lt (pc := 17) (tgt := 39) K dX11_otherwise_17 (by decide) hF (fun c24 hF => ?_) (fun c24 hF => ?_)
    · refine v_iconst (pc := 39) (v := -1) K dX11_otherwise_39 rfl ?_
      have hz := (Option.some.inj hF).symm
      subst hz
      exact v_iret (pc := 40) K hQ dX11_otherwise_40
    · refine v_iload_n (pc := 20) K dX11_otherwise_20 3 rfl ?_
      refine v_aload (pc := 21) K dX11_otherwise_21 0 rfl ?_
      refine gX4_done (pc := 23) K hy ho5 jn_X4 (List.mem_cons_of_mem _ jl_X11_198) dX11_otherwise_23 ?_
      refine v_icmp_ge (pc := 26) (tgt := 39) K dX11_otherwise_26 (by decide) hF (fun c23 hF => ?_) (fun c23 hF => ?_)
      · refine v_iconst (pc := 39) (v := -1) K dX11_otherwise_39 rfl ?_
        have hz := (Option.some.inj hF).symm
        subst hz
        exact v_iret (pc := 40) K hQ dX11_otherwise_40
      · refine v_iload_n (pc := 29) K dX11_otherwise_29 4 rfl ?_
        refine v_iconst (pc := 30) (v := 0) K dX11_otherwise_30 rfl ?_
        refine v_bipush (pc := 31) (v := 10) K dX11_otherwise_31 rfl ?_
        obtain ⟨r7, M8, hc6, hF⟩ := q_bE hF
        refine v_callS (pc := 33) (As := [.int x3, .int (0 : Int32), .int (10 : Int32)]) (rest := []) (st' := [.int r7]) (r := some (.int r7)) (M1 := M8) K (kX11_isWithin l K.2.2.2.2.2.2.1 hy hc6) (jg_S jl_X11_73 jw_t_X11_isWithin jw_n_X11 jw_c_X11_isWithin) rfl rfl rfl jd_X11_isWithin ⟨Nat.le_of_ble_eq_true rfl, Nat.le_of_ble_eq_true rfl⟩ rfl rfl (Nat.le_of_ble_eq_true rfl) dX11_otherwise_33 rfl ?_
        refine v_if_ne (pc := 36) (tgt := 41) K dX11_otherwise_36 (by decide) hF (fun c22 hF => ?_) (fun c22 hF => ?_)
        · refine v_aload_n (pc := 41) K dX11_otherwise_41 1 rfl ?_
          refine v_aload (pc := 42) K dX11_otherwise_42 0 rfl ?_
          obtain ⟨M11, hc9, hF⟩ := q_bvE hF
          refine v_callV (pc := 44) (ci := 10) (As := [.ref (ly_o y o4)]) (rest := []) (st' := []) (r := none) (M1 := M11) K (kX11_study l K.2.2.2.2.2.2.1 hy ho5 hc9) (jg_V jl_X11_161 jw_i_X11_study jw_s_X11_study jw_n_X11 jw_c_X11_study) rfl rfl rfl jd_X11_study ⟨Nat.le_of_ble_eq_true rfl, Nat.le_of_ble_eq_true rfl⟩ rfl rfl (Nat.le_of_ble_eq_true rfl) (by decide) (okc_0 hy (by decide)) rfl dX11_otherwise_44 rfl ?_
          refine v_aload (pc := 47) K dX11_otherwise_47 0 rfl ?_
          refine v_iload_n (pc := 49) K dX11_otherwise_49 3 rfl ?_
          refine v_iconst (pc := 50) (v := 1) K dX11_otherwise_50 rfl ?_
          refine v_isub (pc := 51) K dX11_otherwise_51 ?_
          obtain ⟨r13, M14, hc12, hF⟩ := q_bE hF
          refine v_callV (pc := 52) (ci := 4) (As := [.int (x2 - (1 : Int32))]) (rest := []) (st' := [.int r13]) (r := some (.int r13)) (M1 := M14) K (kX4_stateAt l K.2.2.2.2.2.2.1 hy ho5 hc12) (jg_V jl_X11_233 jw_i_X4_stateAt jw_s_X4_stateAt jw_n_X4 jw_c_X4_stateAt) rfl rfl rfl jd_X4_stateAt ⟨Nat.le_of_ble_eq_true rfl, Nat.le_of_ble_eq_true rfl⟩ rfl rfl (Nat.le_of_ble_eq_true rfl) ho5 (okc_0 hy (by decide)) rfl dX11_otherwise_52 rfl ?_
          refine v_istore (pc := 55) (lv' := [(5, .int r13), (4, .ref (ly_o y o4)), (0, .ref (ly_o y 0)), (1, .int x1), (2, .int x2), (3, .int x3)]) K 5 dX11_otherwise_55 (by decide) rfl ?_
          refine v_aload_n (pc := 57) K dX11_otherwise_57 2 rfl ?_
          refine gX11_affair (pc := 58) K hy (by decide) jn_X11 (List.mem_cons_of_mem _ jl_X11_55) dX11_otherwise_58 ?_
          refine v_iload (pc := 61) K dX11_otherwise_61 0 rfl ?_
          refine v_iload_n (pc := 63) K dX11_otherwise_63 5 rfl ?_
          obtain ⟨r16, M17, hc15, hF⟩ := q_bE hF
          refine v_callV (pc := 64) (ci := 0) (As := [.int r13, .int x3]) (rest := []) (st' := [.int r16]) (r := some (.int r16)) (M1 := M17) K (kX0_allows l K.2.2.2.2.2.2.1 hy hc15) (jg_V jl_X11_201 jw_i_X0_allows jw_s_X0_allows jw_n_X0 jw_c_X0_allows) rfl rfl rfl jd_X0_allows ⟨Nat.le_of_ble_eq_true rfl, Nat.le_of_ble_eq_true rfl⟩ rfl rfl (Nat.le_of_ble_eq_true rfl) (by decide) (okc_0 hy (by decide)) rfl dX11_otherwise_64 rfl ?_
          refine v_if_ne (pc := 67) (tgt := 73) K dX11_otherwise_67 (by decide) hF (fun c21 hF => ?_) (fun c21 hF => ?_)
          · refine v_aload_n (pc := 73) K dX11_otherwise_73 2 rfl ?_
            refine gX11_affair (pc := 74) K hy (by decide) jn_X11 (List.mem_cons_of_mem _ jl_X11_55) dX11_otherwise_74 ?_
            refine v_iload (pc := 77) K dX11_otherwise_77 0 rfl ?_
            refine v_iload_n (pc := 79) K dX11_otherwise_79 5 rfl ?_
            refine v_iconst (pc := 80) (v := 1) K dX11_otherwise_80 rfl ?_
            obtain ⟨r19, M20, hc18, hF⟩ := q_bE hF
            refine v_callV (pc := 81) (ci := 0) (As := [.int r13, .int x3, .int (1 : Int32)]) (rest := []) (st' := [.int r19]) (r := some (.int r19)) (M1 := M20) K (kX0_after l K.2.2.2.2.2.2.1 hy hc18) (jg_V jl_X11_204 jw_i_X0_after jw_s_X0_after jw_n_X0 jw_c_X0_after) rfl rfl rfl jd_X0_after ⟨Nat.le_of_ble_eq_true rfl, Nat.le_of_ble_eq_true rfl⟩ rfl rfl (Nat.le_of_ble_eq_true rfl) (by decide) (okc_0 hy (by decide)) rfl dX11_otherwise_81 rfl ?_
            refine v_istore (pc := 84) (lv' := [(6, .int r19), (5, .int r13), (4, .ref (ly_o y o4)), (0, .ref (ly_o y 0)), (1, .int x1), (2, .int x2), (3, .int x3)]) K 6 dX11_otherwise_84 (by decide) rfl ?_
            refine v_iload_n (pc := 86) K dX11_otherwise_86 5 rfl ?_
            refine v_iconst (pc := 87) (v := 1) K dX11_otherwise_87 rfl ?_
            refine v_iadd (pc := 88) K dX11_otherwise_88 ?_
            refine v_istore (pc := 89) (lv' := [(7, .int (x2 + (1 : Int32))), (6, .int r19), (5, .int r13), (4, .ref (ly_o y o4)), (0, .ref (ly_o y 0)), (1, .int x1), (2, .int x2), (3, .int x3)]) K 7 dX11_otherwise_89 (by decide) rfl ?_
            refine v_sub [4, 3, 1, 0] rfl ?_
            exact bX11_otherwise_91 l K hy hQ q_F ho5 hF
          · refine v_bipush (pc := 70) (v := -2) K dX11_otherwise_70 rfl ?_
            have hz := (Option.some.inj hF).symm
            subst hz
            exact v_iret (pc := 72) K hQ dX11_otherwise_72
        · refine v_iconst (pc := 39) (v := -1) K dX11_otherwise_39 rfl ?_
          have hz := (Option.some.inj hF).symm
          subst hz
          exact v_iret (pc := 40) K hQ dX11_otherwise_40
set_option maxRecDepth 100000 in
set_option maxHeartbeats 4000000 in
theorem kX11_otherwise (l : Launch) {y : Ly} (hJ : ly_J y) (hy : y.2.2.2.2 = 0) {M M1 : QM} {r : Int32} {x1 : Int32} {x2 : Int32} {x3 : Int32} (hF : fX11_otherwise M x1 x2 x3 = some (r, M1)) : Met l yX11_otherwise wqX11_otherwise rmX11_otherwise (q_P y [.ref (ly_o y 0), .int x1, .int x2, .int x3] M) (q_E y (some (.int r)) M1) 0 0 (ly_A y) :=
  q_met (by decide) rfl hJ rfl rfl rfl (fun x K hQ => bX11_otherwise_0 l K hy (z := (r, M1)) hQ  hF)
-- ===== X11_doubt (II)I
theorem jd_X11_doubt : yX11_doubt.cls = RX11 ∧ yX11_doubt.cls ≠ "java/lang/invoke/MethodHandle" ∧ yX11_doubt.cls ≠ "java/lang/invoke/VarHandle" ∧ (parseMethodDescriptor yX11_doubt.desc).map (fun d => d.parameters.length) = some 2 := by decide +kernel
abbrev wqX11_doubt : List Cond := .code yX11_doubt cX11_doubt 7 (some .int) :: wsL_law
abbrev rmX11_doubt : Room := { frames := 21, cells := 0, slots := 0, locals := 601 }
def fX11_doubt_b102 (k57 : QM → Nat → Int32 → Int32 → Int32 → Option (Int32 × QM)) (M : QM) (o3 : Nat) (x4 : Int32) (x5 : Int32) (x6 : Int32) : Option (Int32 × QM) := (k57 M o3 x4 x5 (x6 + (1 : Int32)))
set_option maxRecDepth 100000 in
set_option maxHeartbeats 4000000 in
theorem bX11_doubt_102 {x : Cx} {y : Ly} (l : Launch) (K : VK x l rmX11_doubt y 7 cX11_doubt RX11 wqX11_doubt) (hy : y.2.2.2.2 = 0) {z : Int32 × QM} (hQ : VQ x y (some (.int z.1)) z.2 (some .int)) {k57 : QM → Nat → Int32 → Int32 → Int32 → Option (Int32 × QM)} (hk57 : ∀ {M : QM} {o3 : Nat} {x4 : Int32} {x5 : Int32} {x6 : Int32}, kls o3 = 4 → k57 M o3 x4 x5 x6 = some z → V x y 7 M 57 [(0, .ref (ly_o y 0)), (3, .ref (ly_o y o3)), (4, .int x4), (5, .int x5), (6, .int x6)] []) {M : QM} {o3 : Nat} {x4 : Int32} {x5 : Int32} {x6 : Int32} (ho3 : kls o3 = 4) (hF : fX11_doubt_b102 k57 M o3 x4 x5 x6 = some z) : V x y 7 M 102 [(0, .ref (ly_o y 0)), (3, .ref (ly_o y o3)), (4, .int x4), (5, .int x5), (6, .int x6)] [] := by
  unfold fX11_doubt_b102 at hF
  refine v_iinc (pc := 102) (v1 := x6 + (1 : Int32)) (lv' := [(6, .int (x6 + (1 : Int32))), (0, .ref (ly_o y 0)), (3, .ref (ly_o y o3)), (4, .int x4), (5, .int x5)]) K dX11_doubt_102 4 rfl rfl (by decide) rfl ?_
  refine v_goto (pc := 105) (tgt := 57) K dX11_doubt_105 (by decide) ?_
  refine v_sub [1, 2, 3, 4, 0] rfl ?_
  exact hk57 ho3 hF
def fX11_doubt_b57 : Nat → QM → Nat → Int32 → Int32 → Int32 → Option (Int32 × QM)
  | 0, _, _, _, _, _ => none
  | q + 1, M, o3, x4, x5, x6 => if x4 < x6 then some (x5, M) else if (x6 &&& (x4 ^^^ (-1 : Int32))) ≠ (0 : Int32) then (fX11_doubt_b102 (fun M o3 x4 x5 x6 => fX11_doubt_b57 q M o3 x4 x5 x6) M o3 x4 x5 x6) else (q_b (fX0_heard M o3 x6) fun r20 M21 => (q_b (fX3_outcomeFrom M21 r20) fun r23 M24 => (fX11_doubt_b102 (fun M o3 x4 x5 x6 => fX11_doubt_b57 q M o3 x4 x5 x6) M24 o3 x4 (x5 ||| ((1 : Int32) <<< (r23 &&& (31 : Int32)))) x6)))
set_option maxRecDepth 100000 in
set_option maxHeartbeats 4000000 in
theorem bX11_doubt_57 {x : Cx} {y : Ly} (l : Launch) (K : VK x l rmX11_doubt y 7 cX11_doubt RX11 wqX11_doubt) (hy : y.2.2.2.2 = 0) {z : Int32 × QM} (hQ : VQ x y (some (.int z.1)) z.2 (some .int)) : ∀ (q : Nat) {M : QM} {o3 : Nat} {x4 : Int32} {x5 : Int32} {x6 : Int32}, kls o3 = 4 →  fX11_doubt_b57 q M o3 x4 x5 x6 = some z → V x y 7 M 57 [(0, .ref (ly_o y 0)), (3, .ref (ly_o y o3)), (4, .int x4), (5, .int x5), (6, .int x6)] [] := by
  intro q
  induction q with
  | zero =>
    intro M o3 x4 x5 x6 ho3 hF
    rw [fX11_doubt_b57] at hF
    cases hF
  | succ q ih =>
    intro M o3 x4 x5 x6 ho3 hF
    rw [fX11_doubt_b57] at hF
    refine v_iload (pc := 57) K dX11_doubt_57 4 rfl ?_
    refine v_iload (pc := 59) K dX11_doubt_59 2 rfl ?_
    refine v_icmp_gt (pc := 61) (tgt := 108) K dX11_doubt_61 (by decide) hF (fun c26 hF => ?_) (fun c26 hF => ?_)
    · refine v_iload (pc := 108) K dX11_doubt_108 3 rfl ?_
      have hz := (Option.some.inj hF).symm
      subst hz
      exact v_iret (pc := 110) K hQ dX11_doubt_110
    · refine v_iload (pc := 64) K dX11_doubt_64 4 rfl ?_
      refine v_iload (pc := 66) K dX11_doubt_66 2 rfl ?_
      refine v_iconst (pc := 68) (v := -1) K dX11_doubt_68 rfl ?_
      refine v_ixor (pc := 69) K dX11_doubt_69 ?_
      refine v_iand (pc := 70) K dX11_doubt_70 ?_
      refine v_if_ne (pc := 71) (tgt := 102) K dX11_doubt_71 (by decide) hF (fun c25 hF => ?_) (fun c25 hF => ?_)
      · exact bX11_doubt_102 l K hy hQ ih ho3 hF
      · refine v_iload (pc := 74) K dX11_doubt_74 3 rfl ?_
        refine v_iconst (pc := 76) (v := 1) K dX11_doubt_76 rfl ?_
        refine v_aload_n (pc := 77) K dX11_doubt_77 0 rfl ?_
        refine gX11_play (pc := 78) K hy (by decide) jn_X11 (List.mem_cons_of_mem _ jl_X11_62) dX11_doubt_78 ?_
        refine v_aload_n (pc := 81) K dX11_doubt_81 0 rfl ?_
        refine gX11_affair (pc := 82) K hy (by decide) jn_X11 (List.mem_cons_of_mem _ jl_X11_55) dX11_doubt_82 ?_
        refine v_aload_n (pc := 85) K dX11_doubt_85 0 rfl ?_
        refine gX11_affair (pc := 86) K hy (by decide) jn_X11 (List.mem_cons_of_mem _ jl_X11_55) dX11_doubt_86 ?_
        refine v_aload_n (pc := 89) K dX11_doubt_89 1 rfl ?_
        refine v_iload (pc := 90) K dX11_doubt_90 4 rfl ?_
        obtain ⟨r20, M21, hc19, hF⟩ := q_bE hF
        refine v_callV (pc := 92) (ci := 0) (As := [.ref (ly_o y o3), .int x6]) (rest := [.ref (ly_o y 4), .ref (ly_o y 5), .int (1 : Int32), .int x5]) (st' := [.int r20, .ref (ly_o y 4), .ref (ly_o y 5), .int (1 : Int32), .int x5]) (r := some (.int r20)) (M1 := M21) K (kX0_heard l K.2.2.2.2.2.2.1 hy ho3 hc19) (jg_V jl_X11_249 jw_i_X0_heard jw_s_X0_heard jw_n_X0 jw_c_X0_heard) rfl rfl rfl jd_X0_heard ⟨Nat.le_of_ble_eq_true rfl, Nat.le_of_ble_eq_true rfl⟩ rfl rfl (Nat.le_of_ble_eq_true rfl) (by decide) (okc_0 hy (by decide)) rfl dX11_doubt_92 rfl ?_
        obtain ⟨r23, M24, hc22, hF⟩ := q_bE hF
        refine v_callV (pc := 95) (ci := 3) (As := [.ref (ly_o y 4), .int r20]) (rest := [.int (1 : Int32), .int x5]) (st' := [.int r23, .int (1 : Int32), .int x5]) (r := some (.int r23)) (M1 := M24) K (kX3_outcomeFrom l K.2.2.2.2.2.2.1 hy hc22) (jg_V jl_X11_239 jw_i_X3_outcomeFrom jw_s_X3_outcomeFrom jw_n_X3 jw_c_X3_outcomeFrom) rfl rfl rfl jd_X3_outcomeFrom ⟨Nat.le_of_ble_eq_true rfl, Nat.le_of_ble_eq_true rfl⟩ rfl rfl (Nat.le_of_ble_eq_true rfl) (by decide) (okc_0 hy (by decide)) rfl dX11_doubt_95 rfl ?_
        refine v_ishl (pc := 98) K dX11_doubt_98 ?_
        refine v_ior (pc := 99) K dX11_doubt_99 ?_
        refine v_istore (pc := 100) (lv' := [(5, .int (x5 ||| ((1 : Int32) <<< (r23 &&& (31 : Int32))))), (0, .ref (ly_o y 0)), (3, .ref (ly_o y o3)), (4, .int x4), (6, .int x6)]) K 5 dX11_doubt_100 (by decide) rfl ?_
        refine v_sub [1, 2, 3, 0, 4] rfl ?_
        exact bX11_doubt_102 l K hy hQ ih ho3 hF
def fX11_doubt (M : QM) (x1 : Int32) (x2 : Int32) : Option (Int32 × QM) := (q_b (fX1_quarrelAt M 20 x1) fun r2 M3 => q_o r2 (some ((-1 : Int32), M3)) fun o4 => (if kls o4 = 4 then (q_b (fX11_isWithin M3 x2 (0 : Int32) (((1 : Int32) <<< ((q_i M3 o4 7) &&& (31 : Int32))) - (1 : Int32))) fun r7 M8 => if r7 ≠ (0 : Int32) then (q_bv (fX11_study M8 o4) fun M11 => (q_bv (fX3_begin M11) fun M14 => (q_b (fX4_spoken M14 o4) fun r16 M17 => (fX11_doubt_b57 q_F M17 o4 (x2 &&& r16) (0 : Int32) (0 : Int32))))) else some ((-1 : Int32), M8)) else none))
set_option maxRecDepth 100000 in
set_option maxHeartbeats 4000000 in
theorem bX11_doubt_0 {x : Cx} {y : Ly} (l : Launch) (K : VK x l rmX11_doubt y 7 cX11_doubt RX11 wqX11_doubt) (hy : y.2.2.2.2 = 0) {z : Int32 × QM} (hQ : VQ x y (some (.int z.1)) z.2 (some .int)) {M : QM} {x1 : Int32} {x2 : Int32} (hF : fX11_doubt M x1 x2 = some z) : V x y 7 M 0 [(0, .ref (ly_o y 0)), (1, .int x1), (2, .int x2)] [] := by
  unfold fX11_doubt at hF
  refine v_aload_n (pc := 0) K dX11_doubt_0 0 rfl ?_
  refine gX11_book (pc := 1) K hy (by decide) jn_X11 (List.mem_cons_of_mem _ jl_X11_37) dX11_doubt_1 ?_
  refine v_iload_n (pc := 4) K dX11_doubt_4 1 rfl ?_
  obtain ⟨r2, M3, hc1, hF⟩ := q_bE hF
  cases r2 with
  | none =>
    refine v_callV (pc := 5) (ci := 1) (As := [.int x1]) (rest := []) (st' := [.null]) (r := some .null) (M1 := M3) K (kX1_quarrelAt l K.2.2.2.2.2.2.1 hy (by decide) hc1) (jg_V jl_X11_157 jw_i_X1_quarrelAt jw_s_X1_quarrelAt jw_n_X1 jw_c_X1_quarrelAt) rfl rfl rfl jd_X1_quarrelAt ⟨Nat.le_of_ble_eq_true rfl, Nat.le_of_ble_eq_true rfl⟩ rfl rfl (Nat.le_of_ble_eq_true rfl) (by decide) (okc_0 hy (by decide)) rfl dX11_doubt_5 rfl ?_
    refine v_astore_nN (pc := 8) (lv' := [(3, .null), (0, .ref (ly_o y 0)), (1, .int x1), (2, .int x2)]) K dX11_doubt_8 3 rfl (by decide) rfl ?_
    refine v_aload_nN (pc := 9) K dX11_doubt_9 0 rfl ?_
    refine v_ifnullN (pc := 10) (tgt := 29) K dX11_doubt_10 (by decide) ?_
    refine v_iconst (pc := 29) (v := -1) K dX11_doubt_29 rfl ?_
    have hz := (Option.some.inj hF).symm
    subst hz
    exact v_iret (pc := 30) K hQ dX11_doubt_30
  | some o4 =>
    obtain ⟨ho5, hF⟩ := q_kE hF
    refine v_callV (pc := 5) (ci := 1) (As := [.int x1]) (rest := []) (st' := [.ref (ly_o y o4)]) (r := some (.ref (ly_o y o4))) (M1 := M3) K (kX1_quarrelAt l K.2.2.2.2.2.2.1 hy (by decide) hc1) (jg_V jl_X11_157 jw_i_X1_quarrelAt jw_s_X1_quarrelAt jw_n_X1 jw_c_X1_quarrelAt) rfl rfl rfl jd_X1_quarrelAt ⟨Nat.le_of_ble_eq_true rfl, Nat.le_of_ble_eq_true rfl⟩ rfl rfl (Nat.le_of_ble_eq_true rfl) (by decide) (okc_0 hy (by decide)) rfl dX11_doubt_5 rfl ?_
    refine v_astore_n (pc := 8) (lv' := [(3, .ref (ly_o y o4)), (0, .ref (ly_o y 0)), (1, .int x1), (2, .int x2)]) K dX11_doubt_8 3 rfl (by decide) rfl ?_
    refine v_aload_n (pc := 9) K dX11_doubt_9 0 rfl ?_
    refine v_ifnull (pc := 10) K dX11_doubt_10 ?_
    refine v_iload_n (pc := 13) K dX11_doubt_13 3 rfl ?_
    refine v_iconst (pc := 14) (v := 0) K dX11_doubt_14 rfl ?_
    refine v_iconst (pc := 15) (v := 1) K dX11_doubt_15 rfl ?_
    refine v_aload_n (pc := 16) K dX11_doubt_16 0 rfl ?_
    refine gX4_done (pc := 17) K hy ho5 jn_X4 (List.mem_cons_of_mem _ jl_X11_198) dX11_doubt_17 ?_
    refine v_ishl (pc := 20) K dX11_doubt_20 ?_
    refine v_iconst (pc := 21) (v := 1) K dX11_doubt_21 rfl ?_
    refine v_isub (pc := 22) K dX11_doubt_22 ?_
    obtain ⟨r7, M8, hc6, hF⟩ := q_bE hF
    refine v_callS (pc := 23) (As := [.int x2, .int (0 : Int32), .int (((1 : Int32) <<< ((q_i M3 o4 7) &&& (31 : Int32))) - (1 : Int32))]) (rest := []) (st' := [.int r7]) (r := some (.int r7)) (M1 := M8) K (kX11_isWithin l K.2.2.2.2.2.2.1 hy hc6) (jg_S jl_X11_73 jw_t_X11_isWithin jw_n_X11 jw_c_X11_isWithin) rfl rfl rfl jd_X11_isWithin ⟨Nat.le_of_ble_eq_true rfl, Nat.le_of_ble_eq_true rfl⟩ rfl rfl (Nat.le_of_ble_eq_true rfl) dX11_doubt_23 rfl ?_
    refine v_if_ne (pc := 26) (tgt := 31) K dX11_doubt_26 (by decide) hF (fun c18 hF => ?_) (fun c18 hF => ?_)
    · refine v_aload_n (pc := 31) K dX11_doubt_31 1 rfl ?_
      refine v_aload_n (pc := 32) K dX11_doubt_32 0 rfl ?_
      obtain ⟨M11, hc9, hF⟩ := q_bvE hF
      refine v_callV (pc := 33) (ci := 10) (As := [.ref (ly_o y o4)]) (rest := []) (st' := []) (r := none) (M1 := M11) K (kX11_study l K.2.2.2.2.2.2.1 hy ho5 hc9) (jg_V jl_X11_161 jw_i_X11_study jw_s_X11_study jw_n_X11 jw_c_X11_study) rfl rfl rfl jd_X11_study ⟨Nat.le_of_ble_eq_true rfl, Nat.le_of_ble_eq_true rfl⟩ rfl rfl (Nat.le_of_ble_eq_true rfl) (by decide) (okc_0 hy (by decide)) rfl dX11_doubt_33 rfl ?_
      refine v_aload_n (pc := 36) K dX11_doubt_36 1 rfl ?_
      refine gX11_play (pc := 37) K hy (by decide) jn_X11 (List.mem_cons_of_mem _ jl_X11_62) dX11_doubt_37 ?_
      obtain ⟨M14, hc12, hF⟩ := q_bvE hF
      refine v_callV (pc := 40) (ci := 3) (As := []) (rest := []) (st' := []) (r := none) (M1 := M14) K (kX3_begin l K.2.2.2.2.2.2.1 hy hc12) (jg_V jl_X11_236 jw_i_X3_begin jw_s_X3_begin jw_n_X3 jw_c_X3_begin) rfl rfl rfl jd_X3_begin ⟨Nat.le_of_ble_eq_true rfl, Nat.le_of_ble_eq_true rfl⟩ rfl rfl (Nat.le_of_ble_eq_true rfl) (by decide) (okc_0 hy (by decide)) rfl dX11_doubt_40 rfl ?_
      refine v_iload_n (pc := 43) K dX11_doubt_43 3 rfl ?_
      refine v_aload_n (pc := 44) K dX11_doubt_44 0 rfl ?_
      obtain ⟨r16, M17, hc15, hF⟩ := q_bE hF
      refine v_callV (pc := 45) (ci := 4) (As := []) (rest := [.int x2]) (st' := [.int r16, .int x2]) (r := some (.int r16)) (M1 := M17) K (kX4_spoken l K.2.2.2.2.2.2.1 hy ho5 hc15) (jg_V jl_X11_246 jw_i_X4_spoken jw_s_X4_spoken jw_n_X4 jw_c_X4_spoken) rfl rfl rfl jd_X4_spoken ⟨Nat.le_of_ble_eq_true rfl, Nat.le_of_ble_eq_true rfl⟩ rfl rfl (Nat.le_of_ble_eq_true rfl) ho5 (okc_0 hy (by decide)) rfl dX11_doubt_45 rfl ?_
      refine v_iand (pc := 48) K dX11_doubt_48 ?_
      refine v_istore (pc := 49) (lv' := [(4, .int (x2 &&& r16)), (3, .ref (ly_o y o4)), (0, .ref (ly_o y 0)), (1, .int x1), (2, .int x2)]) K 4 dX11_doubt_49 (by decide) rfl ?_
      refine v_iconst (pc := 51) (v := 0) K dX11_doubt_51 rfl ?_
      refine v_istore (pc := 52) (lv' := [(5, .int (0 : Int32)), (4, .int (x2 &&& r16)), (3, .ref (ly_o y o4)), (0, .ref (ly_o y 0)), (1, .int x1), (2, .int x2)]) K 5 dX11_doubt_52 (by decide) rfl ?_
      refine v_iconst (pc := 54) (v := 0) K dX11_doubt_54 rfl ?_
      refine v_istore (pc := 55) (lv' := [(6, .int (0 : Int32)), (5, .int (0 : Int32)), (4, .int (x2 &&& r16)), (3, .ref (ly_o y o4)), (0, .ref (ly_o y 0)), (1, .int x1), (2, .int x2)]) K 6 dX11_doubt_55 (by decide) rfl ?_
      refine v_sub [4, 3, 2, 1, 0] rfl ?_
      exact bX11_doubt_57 l K hy hQ q_F ho5 hF
    · refine v_iconst (pc := 29) (v := -1) K dX11_doubt_29 rfl ?_
      have hz := (Option.some.inj hF).symm
      subst hz
      exact v_iret (pc := 30) K hQ dX11_doubt_30
set_option maxRecDepth 100000 in
set_option maxHeartbeats 4000000 in
theorem kX11_doubt (l : Launch) {y : Ly} (hJ : ly_J y) (hy : y.2.2.2.2 = 0) {M M1 : QM} {r : Int32} {x1 : Int32} {x2 : Int32} (hF : fX11_doubt M x1 x2 = some (r, M1)) : Met l yX11_doubt wqX11_doubt rmX11_doubt (q_P y [.ref (ly_o y 0), .int x1, .int x2] M) (q_E y (some (.int r)) M1) 0 0 (ly_A y) :=
  q_met (by decide) rfl hJ rfl rfl rfl (fun x K hQ => bX11_doubt_0 l K hy (z := (r, M1)) hQ  hF)
-- ===== X11_hangs (I)I
theorem jd_X11_hangs : yX11_hangs.cls = RX11 ∧ yX11_hangs.cls ≠ "java/lang/invoke/MethodHandle" ∧ yX11_hangs.cls ≠ "java/lang/invoke/VarHandle" ∧ (parseMethodDescriptor yX11_hangs.desc).map (fun d => d.parameters.length) = some 1 := by decide +kernel
abbrev wqX11_hangs : List Cond := .code yX11_hangs cX11_hangs 8 (some .int) :: wsL_law
abbrev rmX11_hangs : Room := { frames := 21, cells := 0, slots := 0, locals := 601 }
def fX11_hangs_b115 (k60 : QM → Nat → Int32 → Int32 → Int32 → Int32 → Option (Int32 × QM)) (M : QM) (o2 : Nat) (x3 : Int32) (x4 : Int32) (x5 : Int32) (x6 : Int32) : Option (Int32 × QM) := (k60 M o2 x3 x4 x5 (x6 + (1 : Int32)))
set_option maxRecDepth 100000 in
set_option maxHeartbeats 4000000 in
theorem bX11_hangs_115 {x : Cx} {y : Ly} (l : Launch) (K : VK x l rmX11_hangs y 8 cX11_hangs RX11 wqX11_hangs) (hy : y.2.2.2.2 = 0) {z : Int32 × QM} (hQ : VQ x y (some (.int z.1)) z.2 (some .int)) {k60 : QM → Nat → Int32 → Int32 → Int32 → Int32 → Option (Int32 × QM)} (hk60 : ∀ {M : QM} {o2 : Nat} {x3 : Int32} {x4 : Int32} {x5 : Int32} {x6 : Int32}, kls o2 = 4 → k60 M o2 x3 x4 x5 x6 = some z → V x y 8 M 60 [(0, .ref (ly_o y 0)), (2, .ref (ly_o y o2)), (3, .int x3), (4, .int x4), (5, .int x5), (6, .int x6)] []) {M : QM} {o2 : Nat} {x3 : Int32} {x4 : Int32} {x5 : Int32} {x6 : Int32} (ho2 : kls o2 = 4) (hF : fX11_hangs_b115 k60 M o2 x3 x4 x5 x6 = some z) : V x y 8 M 115 [(0, .ref (ly_o y 0)), (2, .ref (ly_o y o2)), (3, .int x3), (4, .int x4), (5, .int x5), (6, .int x6)] [] := by
  unfold fX11_hangs_b115 at hF
  refine v_iinc (pc := 115) (v1 := x6 + (1 : Int32)) (lv' := [(6, .int (x6 + (1 : Int32))), (0, .ref (ly_o y 0)), (2, .ref (ly_o y o2)), (3, .int x3), (4, .int x4), (5, .int x5)]) K dX11_hangs_115 5 rfl rfl (by decide) rfl ?_
  refine v_goto (pc := 118) (tgt := 60) K dX11_hangs_118 (by decide) ?_
  refine v_sub [1, 2, 3, 4, 5, 0] rfl ?_
  exact hk60 ho2 hF
def fX11_hangs_b60 : Nat → QM → Nat → Int32 → Int32 → Int32 → Int32 → Option (Int32 × QM)
  | 0, _, _, _, _, _, _ => none
  | q + 1, M, o2, x3, x4, x5, x6 => if (q_i M o2 7) ≤ x6 then some (x5, M) else if (x4 &&& ((1 : Int32) <<< (x6 &&& (31 : Int32)))) = (0 : Int32) then (fX11_hangs_b115 (fun M o2 x3 x4 x5 x6 => fX11_hangs_b60 q M o2 x3 x4 x5 x6) M o2 x3 x4 x5 x6) else (q_b (fX0_heard M o2 (x4 &&& ((1 : Int32) <<< (x6 &&& (31 : Int32))))) fun r22 M23 => (q_b (fX3_outcomeFrom M23 r22) fun r25 M26 => if r25 = x3 then (fX11_hangs_b115 (fun M o2 x3 x4 x5 x6 => fX11_hangs_b60 q M o2 x3 x4 x5 x6) M26 o2 x3 x4 x5 x6) else (fX11_hangs_b115 (fun M o2 x3 x4 x5 x6 => fX11_hangs_b60 q M o2 x3 x4 x5 x6) M26 o2 x3 x4 (x5 ||| (x4 &&& ((1 : Int32) <<< (x6 &&& (31 : Int32))))) x6)))
set_option maxRecDepth 100000 in
set_option maxHeartbeats 4000000 in
theorem bX11_hangs_60 {x : Cx} {y : Ly} (l : Launch) (K : VK x l rmX11_hangs y 8 cX11_hangs RX11 wqX11_hangs) (hy : y.2.2.2.2 = 0) {z : Int32 × QM} (hQ : VQ x y (some (.int z.1)) z.2 (some .int)) : ∀ (q : Nat) {M : QM} {o2 : Nat} {x3 : Int32} {x4 : Int32} {x5 : Int32} {x6 : Int32}, kls o2 = 4 →  fX11_hangs_b60 q M o2 x3 x4 x5 x6 = some z → V x y 8 M 60 [(0, .ref (ly_o y 0)), (2, .ref (ly_o y o2)), (3, .int x3), (4, .int x4), (5, .int x5), (6, .int x6)] [] := by
  intro q
  induction q with
  | zero =>
    intro M o2 x3 x4 x5 x6 ho2 hF
    rw [fX11_hangs_b60] at hF
    cases hF
  | succ q ih =>
    intro M o2 x3 x4 x5 x6 ho2 hF
    rw [fX11_hangs_b60] at hF
    refine v_iload (pc := 60) K dX11_hangs_60 5 rfl ?_
    refine v_aload_n (pc := 62) K dX11_hangs_62 1 rfl ?_
    refine gX4_done (pc := 63) K hy ho2 jn_X4 (List.mem_cons_of_mem _ jl_X11_198) dX11_hangs_63 ?_
    refine v_icmp_ge (pc := 66) (tgt := 121) K dX11_hangs_66 (by decide) hF (fun c29 hF => ?_) (fun c29 hF => ?_)
    · refine v_iload (pc := 121) K dX11_hangs_121 4 rfl ?_
      have hz := (Option.some.inj hF).symm
      subst hz
      exact v_iret (pc := 123) K hQ dX11_hangs_123
    · refine v_iload (pc := 69) K dX11_hangs_69 3 rfl ?_
      refine v_iconst (pc := 71) (v := 1) K dX11_hangs_71 rfl ?_
      refine v_iload (pc := 72) K dX11_hangs_72 5 rfl ?_
      refine v_ishl (pc := 74) K dX11_hangs_74 ?_
      refine v_iand (pc := 75) K dX11_hangs_75 ?_
      refine v_istore (pc := 76) (lv' := [(7, .int (x4 &&& ((1 : Int32) <<< (x6 &&& (31 : Int32))))), (0, .ref (ly_o y 0)), (2, .ref (ly_o y o2)), (3, .int x3), (4, .int x4), (5, .int x5), (6, .int x6)]) K 7 dX11_hangs_76 (by decide) rfl ?_
      refine v_iload (pc := 78) K dX11_hangs_78 0 rfl ?_
      refine v_if_eq (pc := 80) (tgt := 115) K dX11_hangs_80 (by decide) hF (fun c28 hF => ?_) (fun c28 hF => ?_)
      · refine v_sub [1, 2, 3, 4, 5, 6] rfl ?_
        exact bX11_hangs_115 l K hy hQ ih ho2 hF
      · refine v_aload_n (pc := 83) K dX11_hangs_83 1 rfl ?_
        refine gX11_play (pc := 84) K hy (by decide) jn_X11 (List.mem_cons_of_mem _ jl_X11_62) dX11_hangs_84 ?_
        refine v_aload_n (pc := 87) K dX11_hangs_87 1 rfl ?_
        refine gX11_affair (pc := 88) K hy (by decide) jn_X11 (List.mem_cons_of_mem _ jl_X11_55) dX11_hangs_88 ?_
        refine v_aload_n (pc := 91) K dX11_hangs_91 1 rfl ?_
        refine gX11_affair (pc := 92) K hy (by decide) jn_X11 (List.mem_cons_of_mem _ jl_X11_55) dX11_hangs_92 ?_
        refine v_aload_n (pc := 95) K dX11_hangs_95 2 rfl ?_
        refine v_iload (pc := 96) K dX11_hangs_96 0 rfl ?_
        obtain ⟨r22, M23, hc21, hF⟩ := q_bE hF
        refine v_callV (pc := 98) (ci := 0) (As := [.ref (ly_o y o2), .int (x4 &&& ((1 : Int32) <<< (x6 &&& (31 : Int32))))]) (rest := [.ref (ly_o y 4), .ref (ly_o y 5)]) (st' := [.int r22, .ref (ly_o y 4), .ref (ly_o y 5)]) (r := some (.int r22)) (M1 := M23) K (kX0_heard l K.2.2.2.2.2.2.1 hy ho2 hc21) (jg_V jl_X11_249 jw_i_X0_heard jw_s_X0_heard jw_n_X0 jw_c_X0_heard) rfl rfl rfl jd_X0_heard ⟨Nat.le_of_ble_eq_true rfl, Nat.le_of_ble_eq_true rfl⟩ rfl rfl (Nat.le_of_ble_eq_true rfl) (by decide) (okc_0 hy (by decide)) rfl dX11_hangs_98 rfl ?_
        obtain ⟨r25, M26, hc24, hF⟩ := q_bE hF
        refine v_callV (pc := 101) (ci := 3) (As := [.ref (ly_o y 4), .int r22]) (rest := []) (st' := [.int r25]) (r := some (.int r25)) (M1 := M26) K (kX3_outcomeFrom l K.2.2.2.2.2.2.1 hy hc24) (jg_V jl_X11_239 jw_i_X3_outcomeFrom jw_s_X3_outcomeFrom jw_n_X3 jw_c_X3_outcomeFrom) rfl rfl rfl jd_X3_outcomeFrom ⟨Nat.le_of_ble_eq_true rfl, Nat.le_of_ble_eq_true rfl⟩ rfl rfl (Nat.le_of_ble_eq_true rfl) (by decide) (okc_0 hy (by decide)) rfl dX11_hangs_101 rfl ?_
        refine v_iload_n (pc := 104) K dX11_hangs_104 3 rfl ?_
        refine v_icmp_eq (pc := 105) (tgt := 115) K dX11_hangs_105 (by decide) hF (fun c27 hF => ?_) (fun c27 hF => ?_)
        · refine v_sub [1, 2, 3, 4, 5, 6] rfl ?_
          exact bX11_hangs_115 l K hy hQ ih ho2 hF
        · refine v_iload (pc := 108) K dX11_hangs_108 5 rfl ?_
          refine v_iload (pc := 110) K dX11_hangs_110 0 rfl ?_
          refine v_ior (pc := 112) K dX11_hangs_112 ?_
          refine v_istore (pc := 113) (lv' := [(5, .int (x5 ||| (x4 &&& ((1 : Int32) <<< (x6 &&& (31 : Int32)))))), (7, .int (x4 &&& ((1 : Int32) <<< (x6 &&& (31 : Int32))))), (0, .ref (ly_o y 0)), (2, .ref (ly_o y o2)), (3, .int x3), (4, .int x4), (6, .int x6)]) K 5 dX11_hangs_113 (by decide) rfl ?_
          refine v_sub [2, 3, 4, 5, 0, 6] rfl ?_
          exact bX11_hangs_115 l K hy hQ ih ho2 hF
def fX11_hangs (M : QM) (x1 : Int32) : Option (Int32 × QM) := (q_b (fX1_quarrelAt M 20 x1) fun r2 M3 => q_o r2 (some ((-1 : Int32), M3)) fun o4 => (if kls o4 = 4 then (q_bv (fX11_study M3 o4) fun M8 => (q_bv (fX3_begin M8) fun M11 => (q_b (fX0_heard M11 o4 (0 : Int32)) fun r13 M14 => (q_b (fX3_outcomeFrom M14 r13) fun r16 M17 => (q_b (fX4_spoken M17 o4) fun r19 M20 => (fX11_hangs_b60 q_F M20 o4 r16 r19 (0 : Int32) (0 : Int32))))))) else none))
set_option maxRecDepth 100000 in
set_option maxHeartbeats 4000000 in
theorem bX11_hangs_0 {x : Cx} {y : Ly} (l : Launch) (K : VK x l rmX11_hangs y 8 cX11_hangs RX11 wqX11_hangs) (hy : y.2.2.2.2 = 0) {z : Int32 × QM} (hQ : VQ x y (some (.int z.1)) z.2 (some .int)) {M : QM} {x1 : Int32} (hF : fX11_hangs M x1 = some z) : V x y 8 M 0 [(0, .ref (ly_o y 0)), (1, .int x1)] [] := by
  unfold fX11_hangs at hF
  refine v_aload_n (pc := 0) K dX11_hangs_0 0 rfl ?_
  refine gX11_book (pc := 1) K hy (by decide) jn_X11 (List.mem_cons_of_mem _ jl_X11_37) dX11_hangs_1 ?_
  refine v_iload_n (pc := 4) K dX11_hangs_4 1 rfl ?_
  obtain ⟨r2, M3, hc1, hF⟩ := q_bE hF
  cases r2 with
  | none =>
    refine v_callV (pc := 5) (ci := 1) (As := [.int x1]) (rest := []) (st' := [.null]) (r := some .null) (M1 := M3) K (kX1_quarrelAt l K.2.2.2.2.2.2.1 hy (by decide) hc1) (jg_V jl_X11_157 jw_i_X1_quarrelAt jw_s_X1_quarrelAt jw_n_X1 jw_c_X1_quarrelAt) rfl rfl rfl jd_X1_quarrelAt ⟨Nat.le_of_ble_eq_true rfl, Nat.le_of_ble_eq_true rfl⟩ rfl rfl (Nat.le_of_ble_eq_true rfl) (by decide) (okc_0 hy (by decide)) rfl dX11_hangs_5 rfl ?_
    refine v_astore_nN (pc := 8) (lv' := [(2, .null), (0, .ref (ly_o y 0)), (1, .int x1)]) K dX11_hangs_8 2 rfl (by decide) rfl ?_
    refine v_aload_nN (pc := 9) K dX11_hangs_9 0 rfl ?_
    refine v_ifnonnullN (pc := 10) K dX11_hangs_10 ?_
    refine v_iconst (pc := 13) (v := -1) K dX11_hangs_13 rfl ?_
    have hz := (Option.some.inj hF).symm
    subst hz
    exact v_iret (pc := 14) K hQ dX11_hangs_14
  | some o4 =>
    obtain ⟨ho5, hF⟩ := q_kE hF
    refine v_callV (pc := 5) (ci := 1) (As := [.int x1]) (rest := []) (st' := [.ref (ly_o y o4)]) (r := some (.ref (ly_o y o4))) (M1 := M3) K (kX1_quarrelAt l K.2.2.2.2.2.2.1 hy (by decide) hc1) (jg_V jl_X11_157 jw_i_X1_quarrelAt jw_s_X1_quarrelAt jw_n_X1 jw_c_X1_quarrelAt) rfl rfl rfl jd_X1_quarrelAt ⟨Nat.le_of_ble_eq_true rfl, Nat.le_of_ble_eq_true rfl⟩ rfl rfl (Nat.le_of_ble_eq_true rfl) (by decide) (okc_0 hy (by decide)) rfl dX11_hangs_5 rfl ?_
    refine v_astore_n (pc := 8) (lv' := [(2, .ref (ly_o y o4)), (0, .ref (ly_o y 0)), (1, .int x1)]) K dX11_hangs_8 2 rfl (by decide) rfl ?_
    refine v_aload_n (pc := 9) K dX11_hangs_9 0 rfl ?_
    refine v_ifnonnull (pc := 10) (tgt := 15) K dX11_hangs_10 (by decide) ?_
    refine v_aload_n (pc := 15) K dX11_hangs_15 1 rfl ?_
    refine v_aload_n (pc := 16) K dX11_hangs_16 0 rfl ?_
    obtain ⟨M8, hc6, hF⟩ := q_bvE hF
    refine v_callV (pc := 17) (ci := 10) (As := [.ref (ly_o y o4)]) (rest := []) (st' := []) (r := none) (M1 := M8) K (kX11_study l K.2.2.2.2.2.2.1 hy ho5 hc6) (jg_V jl_X11_161 jw_i_X11_study jw_s_X11_study jw_n_X11 jw_c_X11_study) rfl rfl rfl jd_X11_study ⟨Nat.le_of_ble_eq_true rfl, Nat.le_of_ble_eq_true rfl⟩ rfl rfl (Nat.le_of_ble_eq_true rfl) (by decide) (okc_0 hy (by decide)) rfl dX11_hangs_17 rfl ?_
    refine v_aload_n (pc := 20) K dX11_hangs_20 1 rfl ?_
    refine gX11_play (pc := 21) K hy (by decide) jn_X11 (List.mem_cons_of_mem _ jl_X11_62) dX11_hangs_21 ?_
    obtain ⟨M11, hc9, hF⟩ := q_bvE hF
    refine v_callV (pc := 24) (ci := 3) (As := []) (rest := []) (st' := []) (r := none) (M1 := M11) K (kX3_begin l K.2.2.2.2.2.2.1 hy hc9) (jg_V jl_X11_236 jw_i_X3_begin jw_s_X3_begin jw_n_X3 jw_c_X3_begin) rfl rfl rfl jd_X3_begin ⟨Nat.le_of_ble_eq_true rfl, Nat.le_of_ble_eq_true rfl⟩ rfl rfl (Nat.le_of_ble_eq_true rfl) (by decide) (okc_0 hy (by decide)) rfl dX11_hangs_24 rfl ?_
    refine v_aload_n (pc := 27) K dX11_hangs_27 1 rfl ?_
    refine gX11_play (pc := 28) K hy (by decide) jn_X11 (List.mem_cons_of_mem _ jl_X11_62) dX11_hangs_28 ?_
    refine v_aload_n (pc := 31) K dX11_hangs_31 1 rfl ?_
    refine gX11_affair (pc := 32) K hy (by decide) jn_X11 (List.mem_cons_of_mem _ jl_X11_55) dX11_hangs_32 ?_
    refine v_aload_n (pc := 35) K dX11_hangs_35 1 rfl ?_
    refine gX11_affair (pc := 36) K hy (by decide) jn_X11 (List.mem_cons_of_mem _ jl_X11_55) dX11_hangs_36 ?_
    refine v_aload_n (pc := 39) K dX11_hangs_39 0 rfl ?_
    refine v_iconst (pc := 40) (v := 0) K dX11_hangs_40 rfl ?_
    obtain ⟨r13, M14, hc12, hF⟩ := q_bE hF
    refine v_callV (pc := 41) (ci := 0) (As := [.ref (ly_o y o4), .int (0 : Int32)]) (rest := [.ref (ly_o y 4), .ref (ly_o y 5)]) (st' := [.int r13, .ref (ly_o y 4), .ref (ly_o y 5)]) (r := some (.int r13)) (M1 := M14) K (kX0_heard l K.2.2.2.2.2.2.1 hy ho5 hc12) (jg_V jl_X11_249 jw_i_X0_heard jw_s_X0_heard jw_n_X0 jw_c_X0_heard) rfl rfl rfl jd_X0_heard ⟨Nat.le_of_ble_eq_true rfl, Nat.le_of_ble_eq_true rfl⟩ rfl rfl (Nat.le_of_ble_eq_true rfl) (by decide) (okc_0 hy (by decide)) rfl dX11_hangs_41 rfl ?_
    obtain ⟨r16, M17, hc15, hF⟩ := q_bE hF
    refine v_callV (pc := 44) (ci := 3) (As := [.ref (ly_o y 4), .int r13]) (rest := []) (st' := [.int r16]) (r := some (.int r16)) (M1 := M17) K (kX3_outcomeFrom l K.2.2.2.2.2.2.1 hy hc15) (jg_V jl_X11_239 jw_i_X3_outcomeFrom jw_s_X3_outcomeFrom jw_n_X3 jw_c_X3_outcomeFrom) rfl rfl rfl jd_X3_outcomeFrom ⟨Nat.le_of_ble_eq_true rfl, Nat.le_of_ble_eq_true rfl⟩ rfl rfl (Nat.le_of_ble_eq_true rfl) (by decide) (okc_0 hy (by decide)) rfl dX11_hangs_44 rfl ?_
    refine v_istore_n (pc := 47) (lv' := [(3, .int r16), (2, .ref (ly_o y o4)), (0, .ref (ly_o y 0)), (1, .int x1)]) K dX11_hangs_47 3 rfl (by decide) rfl ?_
    refine v_aload_n (pc := 48) K dX11_hangs_48 1 rfl ?_
    obtain ⟨r19, M20, hc18, hF⟩ := q_bE hF
    refine v_callV (pc := 49) (ci := 4) (As := []) (rest := []) (st' := [.int r19]) (r := some (.int r19)) (M1 := M20) K (kX4_spoken l K.2.2.2.2.2.2.1 hy ho5 hc18) (jg_V jl_X11_246 jw_i_X4_spoken jw_s_X4_spoken jw_n_X4 jw_c_X4_spoken) rfl rfl rfl jd_X4_spoken ⟨Nat.le_of_ble_eq_true rfl, Nat.le_of_ble_eq_true rfl⟩ rfl rfl (Nat.le_of_ble_eq_true rfl) ho5 (okc_0 hy (by decide)) rfl dX11_hangs_49 rfl ?_
    refine v_istore (pc := 52) (lv' := [(4, .int r19), (3, .int r16), (2, .ref (ly_o y o4)), (0, .ref (ly_o y 0)), (1, .int x1)]) K 4 dX11_hangs_52 (by decide) rfl ?_
    refine v_iconst (pc := 54) (v := 0) K dX11_hangs_54 rfl ?_
    refine v_istore (pc := 55) (lv' := [(5, .int (0 : Int32)), (4, .int r19), (3, .int r16), (2, .ref (ly_o y o4)), (0, .ref (ly_o y 0)), (1, .int x1)]) K 5 dX11_hangs_55 (by decide) rfl ?_
    refine v_iconst (pc := 57) (v := 0) K dX11_hangs_57 rfl ?_
    refine v_istore (pc := 58) (lv' := [(6, .int (0 : Int32)), (5, .int (0 : Int32)), (4, .int r19), (3, .int r16), (2, .ref (ly_o y o4)), (0, .ref (ly_o y 0)), (1, .int x1)]) K 6 dX11_hangs_58 (by decide) rfl ?_
    refine v_sub [5, 4, 3, 2, 1, 0] rfl ?_
    exact bX11_hangs_60 l K hy hQ q_F ho5 hF
set_option maxRecDepth 100000 in
set_option maxHeartbeats 4000000 in
theorem kX11_hangs (l : Launch) {y : Ly} (hJ : ly_J y) (hy : y.2.2.2.2 = 0) {M M1 : QM} {r : Int32} {x1 : Int32} (hF : fX11_hangs M x1 = some (r, M1)) : Met l yX11_hangs wqX11_hangs rmX11_hangs (q_P y [.ref (ly_o y 0), .int x1] M) (q_E y (some (.int r)) M1) 0 0 (ly_A y) :=
  q_met (by decide) rfl hJ rfl rfl rfl (fun x K hQ => bX11_hangs_0 l K hy (z := (r, M1)) hQ  hF)
-- ===== X11_thinks (III)I
theorem jd_X11_thinks : yX11_thinks.cls = RX11 ∧ yX11_thinks.cls ≠ "java/lang/invoke/MethodHandle" ∧ yX11_thinks.cls ≠ "java/lang/invoke/VarHandle" ∧ (parseMethodDescriptor yX11_thinks.desc).map (fun d => d.parameters.length) = some 3 := by decide +kernel
abbrev wqX11_thinks : List Cond := .code yX11_thinks cX11_thinks 5 (some .int) :: wsL_law
abbrev rmX11_thinks : Room := { frames := 5, cells := 0, slots := 0, locals := 114 }
def fX11_thinks (M : QM) (x1 : Int32) (x2 : Int32) (x3 : Int32) : Option (Int32 × QM) := (q_b (fX1_quarrelAt M 20 x1) fun r2 M3 => q_o r2 (some ((-1 : Int32), M3)) fun o4 => (if kls o4 = 4 then (q_b (fX11_isWithin M3 x2 (0 : Int32) (1 : Int32)) fun r7 M8 => if r7 = (0 : Int32) then some ((-1 : Int32), M8) else (q_b (fX11_isWithin M8 x3 (0 : Int32) (1 : Int32)) fun r10 M11 => if r10 ≠ (0 : Int32) then (q_bv (fX11_study M11 o4) fun M14 => (q_b (fX0_reckoned M14 o4 x2) fun r16 M17 => (q_b (fX7_owed M17 r16 x3) fun r19 M20 => some (r19, M20)))) else some ((-1 : Int32), M11))) else none))
set_option maxRecDepth 100000 in
set_option maxHeartbeats 4000000 in
theorem bX11_thinks_0 {x : Cx} {y : Ly} (l : Launch) (K : VK x l rmX11_thinks y 5 cX11_thinks RX11 wqX11_thinks) (hy : y.2.2.2.2 = 0) {z : Int32 × QM} (hQ : VQ x y (some (.int z.1)) z.2 (some .int)) {M : QM} {x1 : Int32} {x2 : Int32} {x3 : Int32} (hF : fX11_thinks M x1 x2 x3 = some z) : V x y 5 M 0 [(0, .ref (ly_o y 0)), (1, .int x1), (2, .int x2), (3, .int x3)] [] := by
  unfold fX11_thinks at hF
  refine v_aload_n (pc := 0) K dX11_thinks_0 0 rfl ?_
  refine gX11_book (pc := 1) K hy (by decide) jn_X11 (List.mem_cons_of_mem _ jl_X11_37) dX11_thinks_1 ?_
  refine v_iload_n (pc := 4) K dX11_thinks_4 1 rfl ?_
  obtain ⟨r2, M3, hc1, hF⟩ := q_bE hF
  cases r2 with
  | none =>
    refine v_callV (pc := 5) (ci := 1) (As := [.int x1]) (rest := []) (st' := [.null]) (r := some .null) (M1 := M3) K (kX1_quarrelAt l K.2.2.2.2.2.2.1 hy (by decide) hc1) (jg_V jl_X11_157 jw_i_X1_quarrelAt jw_s_X1_quarrelAt jw_n_X1 jw_c_X1_quarrelAt) rfl rfl rfl jd_X1_quarrelAt ⟨Nat.le_of_ble_eq_true rfl, Nat.le_of_ble_eq_true rfl⟩ rfl rfl (Nat.le_of_ble_eq_true rfl) (by decide) (okc_0 hy (by decide)) rfl dX11_thinks_5 rfl ?_
    refine v_astoreN (pc := 8) (lv' := [(4, .null), (0, .ref (ly_o y 0)), (1, .int x1), (2, .int x2), (3, .int x3)]) K 4 dX11_thinks_8 (by decide) rfl ?_
    refine v_aloadN (pc := 10) K dX11_thinks_10 0 rfl ?_
    refine v_ifnullN (pc := 12) (tgt := 33) K dX11_thinks_12 (by decide) ?_
    refine v_iconst (pc := 33) (v := -1) K dX11_thinks_33 rfl ?_
    have hz := (Option.some.inj hF).symm
    subst hz
    exact v_iret (pc := 34) K hQ dX11_thinks_34
  | some o4 =>
    obtain ⟨ho5, hF⟩ := q_kE hF
    refine v_callV (pc := 5) (ci := 1) (As := [.int x1]) (rest := []) (st' := [.ref (ly_o y o4)]) (r := some (.ref (ly_o y o4))) (M1 := M3) K (kX1_quarrelAt l K.2.2.2.2.2.2.1 hy (by decide) hc1) (jg_V jl_X11_157 jw_i_X1_quarrelAt jw_s_X1_quarrelAt jw_n_X1 jw_c_X1_quarrelAt) rfl rfl rfl jd_X1_quarrelAt ⟨Nat.le_of_ble_eq_true rfl, Nat.le_of_ble_eq_true rfl⟩ rfl rfl (Nat.le_of_ble_eq_true rfl) (by decide) (okc_0 hy (by decide)) rfl dX11_thinks_5 rfl ?_
    refine v_astore (pc := 8) (lv' := [(4, .ref (ly_o y o4)), (0, .ref (ly_o y 0)), (1, .int x1), (2, .int x2), (3, .int x3)]) K 4 dX11_thinks_8 (by decide) rfl ?_
    refine v_aload (pc := 10) K dX11_thinks_10 0 rfl ?_
    refine v_ifnull (pc := 12) K dX11_thinks_12 ?_
    refine v_iload_n (pc := 15) K dX11_thinks_15 3 rfl ?_
    refine v_iconst (pc := 16) (v := 0) K dX11_thinks_16 rfl ?_
    refine v_iconst (pc := 17) (v := 1) K dX11_thinks_17 rfl ?_
    obtain ⟨r7, M8, hc6, hF⟩ := q_bE hF
    refine v_callS (pc := 18) (As := [.int x2, .int (0 : Int32), .int (1 : Int32)]) (rest := []) (st' := [.int r7]) (r := some (.int r7)) (M1 := M8) K (kX11_isWithin l K.2.2.2.2.2.2.1 hy hc6) (jg_S jl_X11_73 jw_t_X11_isWithin jw_n_X11 jw_c_X11_isWithin) rfl rfl rfl jd_X11_isWithin ⟨Nat.le_of_ble_eq_true rfl, Nat.le_of_ble_eq_true rfl⟩ rfl rfl (Nat.le_of_ble_eq_true rfl) dX11_thinks_18 rfl ?_
    refine v_if_eq (pc := 21) (tgt := 33) K dX11_thinks_21 (by decide) hF (fun c22 hF => ?_) (fun c22 hF => ?_)
    · refine v_iconst (pc := 33) (v := -1) K dX11_thinks_33 rfl ?_
      have hz := (Option.some.inj hF).symm
      subst hz
      exact v_iret (pc := 34) K hQ dX11_thinks_34
    · refine v_iload_n (pc := 24) K dX11_thinks_24 4 rfl ?_
      refine v_iconst (pc := 25) (v := 0) K dX11_thinks_25 rfl ?_
      refine v_iconst (pc := 26) (v := 1) K dX11_thinks_26 rfl ?_
      obtain ⟨r10, M11, hc9, hF⟩ := q_bE hF
      refine v_callS (pc := 27) (As := [.int x3, .int (0 : Int32), .int (1 : Int32)]) (rest := []) (st' := [.int r10]) (r := some (.int r10)) (M1 := M11) K (kX11_isWithin l K.2.2.2.2.2.2.1 hy hc9) (jg_S jl_X11_73 jw_t_X11_isWithin jw_n_X11 jw_c_X11_isWithin) rfl rfl rfl jd_X11_isWithin ⟨Nat.le_of_ble_eq_true rfl, Nat.le_of_ble_eq_true rfl⟩ rfl rfl (Nat.le_of_ble_eq_true rfl) dX11_thinks_27 rfl ?_
      refine v_if_ne (pc := 30) (tgt := 35) K dX11_thinks_30 (by decide) hF (fun c21 hF => ?_) (fun c21 hF => ?_)
      · refine v_aload_n (pc := 35) K dX11_thinks_35 1 rfl ?_
        refine v_aload (pc := 36) K dX11_thinks_36 0 rfl ?_
        obtain ⟨M14, hc12, hF⟩ := q_bvE hF
        refine v_callV (pc := 38) (ci := 10) (As := [.ref (ly_o y o4)]) (rest := []) (st' := []) (r := none) (M1 := M14) K (kX11_study l K.2.2.2.2.2.2.1 hy ho5 hc12) (jg_V jl_X11_161 jw_i_X11_study jw_s_X11_study jw_n_X11 jw_c_X11_study) rfl rfl rfl jd_X11_study ⟨Nat.le_of_ble_eq_true rfl, Nat.le_of_ble_eq_true rfl⟩ rfl rfl (Nat.le_of_ble_eq_true rfl) (by decide) (okc_0 hy (by decide)) rfl dX11_thinks_38 rfl ?_
        refine v_aload_n (pc := 41) K dX11_thinks_41 1 rfl ?_
        refine gX11_affair (pc := 42) K hy (by decide) jn_X11 (List.mem_cons_of_mem _ jl_X11_55) dX11_thinks_42 ?_
        refine v_aload (pc := 45) K dX11_thinks_45 0 rfl ?_
        refine v_iload_n (pc := 47) K dX11_thinks_47 3 rfl ?_
        obtain ⟨r16, M17, hc15, hF⟩ := q_bE hF
        refine v_callV (pc := 48) (ci := 0) (As := [.ref (ly_o y o4), .int x2]) (rest := []) (st' := [.int r16]) (r := some (.int r16)) (M1 := M17) K (kX0_reckoned l K.2.2.2.2.2.2.1 hy ho5 hc15) (jg_V jl_X11_253 jw_i_X0_reckoned jw_s_X0_reckoned jw_n_X0 jw_c_X0_reckoned) rfl rfl rfl jd_X0_reckoned ⟨Nat.le_of_ble_eq_true rfl, Nat.le_of_ble_eq_true rfl⟩ rfl rfl (Nat.le_of_ble_eq_true rfl) (by decide) (okc_0 hy (by decide)) rfl dX11_thinks_48 rfl ?_
        refine v_iload_n (pc := 51) K dX11_thinks_51 4 rfl ?_
        obtain ⟨r19, M20, hc18, hF⟩ := q_bE hF
        refine v_callS (pc := 52) (As := [.int r16, .int x3]) (rest := []) (st' := [.int r19]) (r := some (.int r19)) (M1 := M20) K (kX7_owed l K.2.2.2.2.2.2.1 hy hc18) (jg_S jl_X11_185 jw_t_X7_owed jw_n_X7 jw_c_X7_owed) rfl rfl rfl jd_X7_owed ⟨Nat.le_of_ble_eq_true rfl, Nat.le_of_ble_eq_true rfl⟩ rfl rfl (Nat.le_of_ble_eq_true rfl) dX11_thinks_52 rfl ?_
        have hz := (Option.some.inj hF).symm
        subst hz
        exact v_iret (pc := 55) K hQ dX11_thinks_55
      · refine v_iconst (pc := 33) (v := -1) K dX11_thinks_33 rfl ?_
        have hz := (Option.some.inj hF).symm
        subst hz
        exact v_iret (pc := 34) K hQ dX11_thinks_34
set_option maxRecDepth 100000 in
set_option maxHeartbeats 4000000 in
theorem kX11_thinks (l : Launch) {y : Ly} (hJ : ly_J y) (hy : y.2.2.2.2 = 0) {M M1 : QM} {r : Int32} {x1 : Int32} {x2 : Int32} {x3 : Int32} (hF : fX11_thinks M x1 x2 x3 = some (r, M1)) : Met l yX11_thinks wqX11_thinks rmX11_thinks (q_P y [.ref (ly_o y 0), .int x1, .int x2, .int x3] M) (q_E y (some (.int r)) M1) 0 0 (ly_A y) :=
  q_met (by decide) rfl hJ rfl rfl rfl (fun x K hQ => bX11_thinks_0 l K hy (z := (r, M1)) hQ  hF)
-- ===== X11_waits (I)I
theorem jd_X11_waits : yX11_waits.cls = RX11 ∧ yX11_waits.cls ≠ "java/lang/invoke/MethodHandle" ∧ yX11_waits.cls ≠ "java/lang/invoke/VarHandle" ∧ (parseMethodDescriptor yX11_waits.desc).map (fun d => d.parameters.length) = some 1 := by decide +kernel
abbrev wqX11_waits : List Cond := .code yX11_waits cX11_waits 3 (some .int) :: wsL_law
abbrev rmX11_waits : Room := { frames := 5, cells := 0, slots := 0, locals := 113 }
def fX11_waits (M : QM) (x1 : Int32) : Option (Int32 × QM) := (q_b (fX1_quarrelAt M 20 x1) fun r2 M3 => q_o r2 (some ((-1 : Int32), M3)) fun o4 => (if kls o4 = 4 then (q_b (fX1_waitedFor M3 20 x1) fun r7 M8 => some (r7, M8)) else none))
set_option maxRecDepth 100000 in
set_option maxHeartbeats 4000000 in
theorem bX11_waits_0 {x : Cx} {y : Ly} (l : Launch) (K : VK x l rmX11_waits y 3 cX11_waits RX11 wqX11_waits) (hy : y.2.2.2.2 = 0) {z : Int32 × QM} (hQ : VQ x y (some (.int z.1)) z.2 (some .int)) {M : QM} {x1 : Int32} (hF : fX11_waits M x1 = some z) : V x y 3 M 0 [(0, .ref (ly_o y 0)), (1, .int x1)] [] := by
  unfold fX11_waits at hF
  refine v_aload_n (pc := 0) K dX11_waits_0 0 rfl ?_
  refine gX11_book (pc := 1) K hy (by decide) jn_X11 (List.mem_cons_of_mem _ jl_X11_37) dX11_waits_1 ?_
  refine v_iload_n (pc := 4) K dX11_waits_4 1 rfl ?_
  obtain ⟨r2, M3, hc1, hF⟩ := q_bE hF
  cases r2 with
  | none =>
    refine v_callV (pc := 5) (ci := 1) (As := [.int x1]) (rest := []) (st' := [.null]) (r := some .null) (M1 := M3) K (kX1_quarrelAt l K.2.2.2.2.2.2.1 hy (by decide) hc1) (jg_V jl_X11_157 jw_i_X1_quarrelAt jw_s_X1_quarrelAt jw_n_X1 jw_c_X1_quarrelAt) rfl rfl rfl jd_X1_quarrelAt ⟨Nat.le_of_ble_eq_true rfl, Nat.le_of_ble_eq_true rfl⟩ rfl rfl (Nat.le_of_ble_eq_true rfl) (by decide) (okc_0 hy (by decide)) rfl dX11_waits_5 rfl ?_
    refine v_astore_nN (pc := 8) (lv' := [(2, .null), (0, .ref (ly_o y 0)), (1, .int x1)]) K dX11_waits_8 2 rfl (by decide) rfl ?_
    refine v_aload_nN (pc := 9) K dX11_waits_9 0 rfl ?_
    refine v_ifnonnullN (pc := 10) K dX11_waits_10 ?_
    refine v_iconst (pc := 13) (v := -1) K dX11_waits_13 rfl ?_
    have hz := (Option.some.inj hF).symm
    subst hz
    exact v_iret (pc := 14) K hQ dX11_waits_14
  | some o4 =>
    obtain ⟨ho5, hF⟩ := q_kE hF
    refine v_callV (pc := 5) (ci := 1) (As := [.int x1]) (rest := []) (st' := [.ref (ly_o y o4)]) (r := some (.ref (ly_o y o4))) (M1 := M3) K (kX1_quarrelAt l K.2.2.2.2.2.2.1 hy (by decide) hc1) (jg_V jl_X11_157 jw_i_X1_quarrelAt jw_s_X1_quarrelAt jw_n_X1 jw_c_X1_quarrelAt) rfl rfl rfl jd_X1_quarrelAt ⟨Nat.le_of_ble_eq_true rfl, Nat.le_of_ble_eq_true rfl⟩ rfl rfl (Nat.le_of_ble_eq_true rfl) (by decide) (okc_0 hy (by decide)) rfl dX11_waits_5 rfl ?_
    refine v_astore_n (pc := 8) (lv' := [(2, .ref (ly_o y o4)), (0, .ref (ly_o y 0)), (1, .int x1)]) K dX11_waits_8 2 rfl (by decide) rfl ?_
    refine v_aload_n (pc := 9) K dX11_waits_9 0 rfl ?_
    refine v_ifnonnull (pc := 10) (tgt := 15) K dX11_waits_10 (by decide) ?_
    refine v_aload_n (pc := 15) K dX11_waits_15 1 rfl ?_
    refine gX11_book (pc := 16) K hy (by decide) jn_X11 (List.mem_cons_of_mem _ jl_X11_37) dX11_waits_16 ?_
    refine v_iload_n (pc := 19) K dX11_waits_19 2 rfl ?_
    obtain ⟨r7, M8, hc6, hF⟩ := q_bE hF
    refine v_callV (pc := 20) (ci := 1) (As := [.int x1]) (rest := []) (st' := [.int r7]) (r := some (.int r7)) (M1 := M8) K (kX1_waitedFor l K.2.2.2.2.2.2.1 hy (by decide) hc6) (jg_V jl_X11_256 jw_i_X1_waitedFor jw_s_X1_waitedFor jw_n_X1 jw_c_X1_waitedFor) rfl rfl rfl jd_X1_waitedFor ⟨Nat.le_of_ble_eq_true rfl, Nat.le_of_ble_eq_true rfl⟩ rfl rfl (Nat.le_of_ble_eq_true rfl) (by decide) (okc_0 hy (by decide)) rfl dX11_waits_20 rfl ?_
    have hz := (Option.some.inj hF).symm
    subst hz
    exact v_iret (pc := 23) K hQ dX11_waits_23
set_option maxRecDepth 100000 in
set_option maxHeartbeats 4000000 in
theorem kX11_waits (l : Launch) {y : Ly} (hJ : ly_J y) (hy : y.2.2.2.2 = 0) {M M1 : QM} {r : Int32} {x1 : Int32} (hF : fX11_waits M x1 = some (r, M1)) : Met l yX11_waits wqX11_waits rmX11_waits (q_P y [.ref (ly_o y 0), .int x1] M) (q_E y (some (.int r)) M1) 0 0 (ly_A y) :=
  q_met (by decide) rfl hJ rfl rfl rfl (fun x K hQ => bX11_waits_0 l K hy (z := (r, M1)) hQ  hF)
-- ===== X11_ring (I)I
theorem jd_X11_ring : yX11_ring.cls = RX11 ∧ yX11_ring.cls ≠ "java/lang/invoke/MethodHandle" ∧ yX11_ring.cls ≠ "java/lang/invoke/VarHandle" ∧ (parseMethodDescriptor yX11_ring.desc).map (fun d => d.parameters.length) = some 1 := by decide +kernel
abbrev wqX11_ring : List Cond := .code yX11_ring cX11_ring 3 (some .int) :: wsL_law
abbrev rmX11_ring : Room := { frames := 6, cells := 0, slots := 0, locals := 139 }
def fX11_ring (M : QM) (x1 : Int32) : Option (Int32 × QM) := (q_b (fX1_quarrelAt M 20 x1) fun r2 M3 => q_o r2 (some ((-1 : Int32), M3)) fun o4 => (if kls o4 = 4 then (q_b (fX1_isInRing M3 20 x1) fun r7 M8 => if r7 = (0 : Int32) then some ((0 : Int32), M8) else some ((1 : Int32), M8)) else none))
set_option maxRecDepth 100000 in
set_option maxHeartbeats 4000000 in
theorem bX11_ring_0 {x : Cx} {y : Ly} (l : Launch) (K : VK x l rmX11_ring y 3 cX11_ring RX11 wqX11_ring) (hy : y.2.2.2.2 = 0) {z : Int32 × QM} (hQ : VQ x y (some (.int z.1)) z.2 (some .int)) {M : QM} {x1 : Int32} (hF : fX11_ring M x1 = some z) : V x y 3 M 0 [(0, .ref (ly_o y 0)), (1, .int x1)] [] := by
  unfold fX11_ring at hF
  refine v_aload_n (pc := 0) K dX11_ring_0 0 rfl ?_
  refine gX11_book (pc := 1) K hy (by decide) jn_X11 (List.mem_cons_of_mem _ jl_X11_37) dX11_ring_1 ?_
  refine v_iload_n (pc := 4) K dX11_ring_4 1 rfl ?_
  obtain ⟨r2, M3, hc1, hF⟩ := q_bE hF
  cases r2 with
  | none =>
    refine v_callV (pc := 5) (ci := 1) (As := [.int x1]) (rest := []) (st' := [.null]) (r := some .null) (M1 := M3) K (kX1_quarrelAt l K.2.2.2.2.2.2.1 hy (by decide) hc1) (jg_V jl_X11_157 jw_i_X1_quarrelAt jw_s_X1_quarrelAt jw_n_X1 jw_c_X1_quarrelAt) rfl rfl rfl jd_X1_quarrelAt ⟨Nat.le_of_ble_eq_true rfl, Nat.le_of_ble_eq_true rfl⟩ rfl rfl (Nat.le_of_ble_eq_true rfl) (by decide) (okc_0 hy (by decide)) rfl dX11_ring_5 rfl ?_
    refine v_astore_nN (pc := 8) (lv' := [(2, .null), (0, .ref (ly_o y 0)), (1, .int x1)]) K dX11_ring_8 2 rfl (by decide) rfl ?_
    refine v_aload_nN (pc := 9) K dX11_ring_9 0 rfl ?_
    refine v_ifnonnullN (pc := 10) K dX11_ring_10 ?_
    refine v_iconst (pc := 13) (v := -1) K dX11_ring_13 rfl ?_
    have hz := (Option.some.inj hF).symm
    subst hz
    exact v_iret (pc := 14) K hQ dX11_ring_14
  | some o4 =>
    obtain ⟨ho5, hF⟩ := q_kE hF
    refine v_callV (pc := 5) (ci := 1) (As := [.int x1]) (rest := []) (st' := [.ref (ly_o y o4)]) (r := some (.ref (ly_o y o4))) (M1 := M3) K (kX1_quarrelAt l K.2.2.2.2.2.2.1 hy (by decide) hc1) (jg_V jl_X11_157 jw_i_X1_quarrelAt jw_s_X1_quarrelAt jw_n_X1 jw_c_X1_quarrelAt) rfl rfl rfl jd_X1_quarrelAt ⟨Nat.le_of_ble_eq_true rfl, Nat.le_of_ble_eq_true rfl⟩ rfl rfl (Nat.le_of_ble_eq_true rfl) (by decide) (okc_0 hy (by decide)) rfl dX11_ring_5 rfl ?_
    refine v_astore_n (pc := 8) (lv' := [(2, .ref (ly_o y o4)), (0, .ref (ly_o y 0)), (1, .int x1)]) K dX11_ring_8 2 rfl (by decide) rfl ?_
    refine v_aload_n (pc := 9) K dX11_ring_9 0 rfl ?_
    refine v_ifnonnull (pc := 10) (tgt := 15) K dX11_ring_10 (by decide) ?_
    refine v_aload_n (pc := 15) K dX11_ring_15 1 rfl ?_
    refine gX11_book (pc := 16) K hy (by decide) jn_X11 (List.mem_cons_of_mem _ jl_X11_37) dX11_ring_16 ?_
    refine v_iload_n (pc := 19) K dX11_ring_19 2 rfl ?_
    obtain ⟨r7, M8, hc6, hF⟩ := q_bE hF
    refine v_callV (pc := 20) (ci := 1) (As := [.int x1]) (rest := []) (st' := [.int r7]) (r := some (.int r7)) (M1 := M8) K (kX1_isInRing l K.2.2.2.2.2.2.1 hy (by decide) hc6) (jg_V jl_X11_259 jw_i_X1_isInRing jw_s_X1_isInRing jw_n_X1 jw_c_X1_isInRing) rfl rfl rfl jd_X1_isInRing ⟨Nat.le_of_ble_eq_true rfl, Nat.le_of_ble_eq_true rfl⟩ rfl rfl (Nat.le_of_ble_eq_true rfl) (by decide) (okc_0 hy (by decide)) rfl dX11_ring_20 rfl ?_
    refine v_if_eq (pc := 23) (tgt := 30) K dX11_ring_23 (by decide) hF (fun c9 hF => ?_) (fun c9 hF => ?_)
    · refine v_iconst (pc := 30) (v := 0) K dX11_ring_30 rfl ?_
      have hz := (Option.some.inj hF).symm
      subst hz
      exact v_iret (pc := 31) K hQ dX11_ring_31
    · refine v_iconst (pc := 26) (v := 1) K dX11_ring_26 rfl ?_
      refine v_goto (pc := 27) (tgt := 31) K dX11_ring_27 (by decide) ?_
      have hz := (Option.some.inj hF).symm
      subst hz
      exact v_iret (pc := 31) K hQ dX11_ring_31
set_option maxRecDepth 100000 in
set_option maxHeartbeats 4000000 in
theorem kX11_ring (l : Launch) {y : Ly} (hJ : ly_J y) (hy : y.2.2.2.2 = 0) {M M1 : QM} {r : Int32} {x1 : Int32} (hF : fX11_ring M x1 = some (r, M1)) : Met l yX11_ring wqX11_ring rmX11_ring (q_P y [.ref (ly_o y 0), .int x1] M) (q_E y (some (.int r)) M1) 0 0 (ly_A y) :=
  q_met (by decide) rfl hJ rfl rfl rfl (fun x K hQ => bX11_ring_0 l K hy (z := (r, M1)) hQ  hF)
-- ===== X11_first (I)I
theorem jd_X11_first : yX11_first.cls = RX11 ∧ yX11_first.cls ≠ "java/lang/invoke/MethodHandle" ∧ yX11_first.cls ≠ "java/lang/invoke/VarHandle" ∧ (parseMethodDescriptor yX11_first.desc).map (fun d => d.parameters.length) = some 1 := by decide +kernel
abbrev wqX11_first : List Cond := .code yX11_first cX11_first 2 (some .int) :: wsL_law
abbrev rmX11_first : Room := { frames := 4, cells := 0, slots := 0, locals := 88 }
def fX11_first (M : QM) (x1 : Int32) : Option (Int32 × QM) := (q_b (fX1_hasPerson M 20 x1) fun r2 M3 => if r2 ≠ (0 : Int32) then (q_b (fX1_takenFirst M3 20 x1) fun r5 M6 => some (r5, M6)) else some ((-1 : Int32), M3))
set_option maxRecDepth 100000 in
set_option maxHeartbeats 4000000 in
theorem bX11_first_0 {x : Cx} {y : Ly} (l : Launch) (K : VK x l rmX11_first y 2 cX11_first RX11 wqX11_first) (hy : y.2.2.2.2 = 0) {z : Int32 × QM} (hQ : VQ x y (some (.int z.1)) z.2 (some .int)) {M : QM} {x1 : Int32} (hF : fX11_first M x1 = some z) : V x y 2 M 0 [(0, .ref (ly_o y 0)), (1, .int x1)] [] := by
  unfold fX11_first at hF
  refine v_aload_n (pc := 0) K dX11_first_0 0 rfl ?_
  refine gX11_book (pc := 1) K hy (by decide) jn_X11 (List.mem_cons_of_mem _ jl_X11_37) dX11_first_1 ?_
  refine v_iload_n (pc := 4) K dX11_first_4 1 rfl ?_
  obtain ⟨r2, M3, hc1, hF⟩ := q_bE hF
  refine v_callV (pc := 5) (ci := 1) (As := [.int x1]) (rest := []) (st' := [.int r2]) (r := some (.int r2)) (M1 := M3) K (kX1_hasPerson l K.2.2.2.2.2.2.1 hy (by decide) hc1) (jg_V jl_X11_107 jw_i_X1_hasPerson jw_s_X1_hasPerson jw_n_X1 jw_c_X1_hasPerson) rfl rfl rfl jd_X1_hasPerson ⟨Nat.le_of_ble_eq_true rfl, Nat.le_of_ble_eq_true rfl⟩ rfl rfl (Nat.le_of_ble_eq_true rfl) (by decide) (okc_0 hy (by decide)) rfl dX11_first_5 rfl ?_
  refine v_if_ne (pc := 8) (tgt := 13) K dX11_first_8 (by decide) hF (fun c7 hF => ?_) (fun c7 hF => ?_)
  · refine v_aload_n (pc := 13) K dX11_first_13 0 rfl ?_
    refine gX11_book (pc := 14) K hy (by decide) jn_X11 (List.mem_cons_of_mem _ jl_X11_37) dX11_first_14 ?_
    refine v_iload_n (pc := 17) K dX11_first_17 1 rfl ?_
    obtain ⟨r5, M6, hc4, hF⟩ := q_bE hF
    refine v_callV (pc := 18) (ci := 1) (As := [.int x1]) (rest := []) (st' := [.int r5]) (r := some (.int r5)) (M1 := M6) K (kX1_takenFirst l K.2.2.2.2.2.2.1 hy (by decide) hc4) (jg_V jl_X11_262 jw_i_X1_takenFirst jw_s_X1_takenFirst jw_n_X1 jw_c_X1_takenFirst) rfl rfl rfl jd_X1_takenFirst ⟨Nat.le_of_ble_eq_true rfl, Nat.le_of_ble_eq_true rfl⟩ rfl rfl (Nat.le_of_ble_eq_true rfl) (by decide) (okc_0 hy (by decide)) rfl dX11_first_18 rfl ?_
    have hz := (Option.some.inj hF).symm
    subst hz
    exact v_iret (pc := 21) K hQ dX11_first_21
  · refine v_iconst (pc := 11) (v := -1) K dX11_first_11 rfl ?_
    have hz := (Option.some.inj hF).symm
    subst hz
    exact v_iret (pc := 12) K hQ dX11_first_12
set_option maxRecDepth 100000 in
set_option maxHeartbeats 4000000 in
theorem kX11_first (l : Launch) {y : Ly} (hJ : ly_J y) (hy : y.2.2.2.2 = 0) {M M1 : QM} {r : Int32} {x1 : Int32} (hF : fX11_first M x1 = some (r, M1)) : Met l yX11_first wqX11_first rmX11_first (q_P y [.ref (ly_o y 0), .int x1] M) (q_E y (some (.int r)) M1) 0 0 (ly_A y) :=
  q_met (by decide) rfl hJ rfl rfl rfl (fun x K hQ => bX11_first_0 l K hy (z := (r, M1)) hQ  hF)
-- ===== X11_harsh (IIII)I
theorem jd_X11_harsh : yX11_harsh.cls = RX11 ∧ yX11_harsh.cls ≠ "java/lang/invoke/MethodHandle" ∧ yX11_harsh.cls ≠ "java/lang/invoke/VarHandle" ∧ (parseMethodDescriptor yX11_harsh.desc).map (fun d => d.parameters.length) = some 4 := by decide +kernel
abbrev wqX11_harsh : List Cond := .code yX11_harsh cX11_harsh 7 (some .int) :: wsL_law
abbrev rmX11_harsh : Room := { frames := 21, cells := 0, slots := 0, locals := 601 }
def fX11_harsh_b109 (k68 : QM → Int32 → Int32 → Option (Int32 × QM)) (M : QM) (x5 : Int32) (x6 : Int32) : Option (Int32 × QM) := (k68 M x5 (x6 + (1 : Int32)))
set_option maxRecDepth 100000 in
set_option maxHeartbeats 4000000 in
theorem bX11_harsh_109 {x : Cx} {y : Ly} (l : Launch) (K : VK x l rmX11_harsh y 7 cX11_harsh RX11 wqX11_harsh) (hy : y.2.2.2.2 = 0) {z : Int32 × QM} (hQ : VQ x y (some (.int z.1)) z.2 (some .int)) {k68 : QM → Int32 → Int32 → Option (Int32 × QM)} (hk68 : ∀ {M : QM} {x5 : Int32} {x6 : Int32}, k68 M x5 x6 = some z → V x y 7 M 68 [(0, .ref (ly_o y 0)), (5, .int x5), (6, .int x6)] []) {M : QM} {x5 : Int32} {x6 : Int32} (hF : fX11_harsh_b109 k68 M x5 x6 = some z) : V x y 7 M 109 [(0, .ref (ly_o y 0)), (5, .int x5), (6, .int x6)] [] := by
  unfold fX11_harsh_b109 at hF
  refine v_iinc (pc := 109) (v1 := x6 + (1 : Int32)) (lv' := [(6, .int (x6 + (1 : Int32))), (0, .ref (ly_o y 0)), (5, .int x5)]) K dX11_harsh_109 2 rfl rfl (by decide) rfl ?_
  refine v_goto (pc := 112) (tgt := 68) K dX11_harsh_112 (by decide) ?_
  refine v_sub [1, 2, 0] rfl ?_
  exact hk68 hF
def fX11_harsh_b68 : Nat → QM → Int32 → Int32 → Option (Int32 × QM)
  | 0, _, _, _ => none
  | q + 1, M, x5, x6 => if (4 : Int32) ≤ x6 then some (x5, M) else (q_b (fX0_open M x6 (1 : Int32)) fun r28 M29 => (q_b (fX3_outcomeFrom M29 r28) fun r31 M32 => if r31 ≠ (8 : Int32) then (fX11_harsh_b109 (fun M x5 x6 => fX11_harsh_b68 q M x5 x6) M32 x5 x6) else (fX11_harsh_b109 (fun M x5 x6 => fX11_harsh_b68 q M x5 x6) M32 (x5 ||| ((1 : Int32) <<< (x6 &&& (31 : Int32)))) x6)))
set_option maxRecDepth 100000 in
set_option maxHeartbeats 4000000 in
theorem bX11_harsh_68 {x : Cx} {y : Ly} (l : Launch) (K : VK x l rmX11_harsh y 7 cX11_harsh RX11 wqX11_harsh) (hy : y.2.2.2.2 = 0) {z : Int32 × QM} (hQ : VQ x y (some (.int z.1)) z.2 (some .int)) : ∀ (q : Nat) {M : QM} {x5 : Int32} {x6 : Int32},  fX11_harsh_b68 q M x5 x6 = some z → V x y 7 M 68 [(0, .ref (ly_o y 0)), (5, .int x5), (6, .int x6)] [] := by
  intro q
  induction q with
  | zero =>
    intro M x5 x6  hF
    rw [fX11_harsh_b68] at hF
    cases hF
  | succ q ih =>
    intro M x5 x6  hF
    rw [fX11_harsh_b68] at hF
    refine v_iload (pc := 68) K dX11_harsh_68 2 rfl ?_
    refine v_iconst (pc := 70) (v := 4) K dX11_harsh_70 rfl ?_
    refine v_icmp_ge (pc := 71) (tgt := 115) K dX11_harsh_71 (by decide) hF (fun c34 hF => ?_) (fun c34 hF => ?_)
    · refine v_iload (pc := 115) K dX11_harsh_115 1 rfl ?_
      have hz := (Option.some.inj hF).symm
      subst hz
      exact v_iret (pc := 117) K hQ dX11_harsh_117
    · refine v_aload_n (pc := 74) K dX11_harsh_74 0 rfl ?_
      refine gX11_play (pc := 75) K hy (by decide) jn_X11 (List.mem_cons_of_mem _ jl_X11_62) dX11_harsh_75 ?_
      refine v_aload_n (pc := 78) K dX11_harsh_78 0 rfl ?_
      refine gX11_affair (pc := 79) K hy (by decide) jn_X11 (List.mem_cons_of_mem _ jl_X11_55) dX11_harsh_79 ?_
      refine v_aload_n (pc := 82) K dX11_harsh_82 0 rfl ?_
      refine gX11_affair (pc := 83) K hy (by decide) jn_X11 (List.mem_cons_of_mem _ jl_X11_55) dX11_harsh_83 ?_
      refine v_iload (pc := 86) K dX11_harsh_86 2 rfl ?_
      refine v_iconst (pc := 88) (v := 1) K dX11_harsh_88 rfl ?_
      obtain ⟨r28, M29, hc27, hF⟩ := q_bE hF
      refine v_callV (pc := 89) (ci := 0) (As := [.int x6, .int (1 : Int32)]) (rest := [.ref (ly_o y 4), .ref (ly_o y 5)]) (st' := [.int r28, .ref (ly_o y 4), .ref (ly_o y 5)]) (r := some (.int r28)) (M1 := M29) K (kX0_open l K.2.2.2.2.2.2.1 hy hc27) (jg_V jl_X11_165 jw_i_X0_open jw_s_X0_open jw_n_X0 jw_c_X0_open) rfl rfl rfl jd_X0_open ⟨Nat.le_of_ble_eq_true rfl, Nat.le_of_ble_eq_true rfl⟩ rfl rfl (Nat.le_of_ble_eq_true rfl) (by decide) (okc_0 hy (by decide)) rfl dX11_harsh_89 rfl ?_
      obtain ⟨r31, M32, hc30, hF⟩ := q_bE hF
      refine v_callV (pc := 92) (ci := 3) (As := [.ref (ly_o y 4), .int r28]) (rest := []) (st' := [.int r31]) (r := some (.int r31)) (M1 := M32) K (kX3_outcomeFrom l K.2.2.2.2.2.2.1 hy hc30) (jg_V jl_X11_239 jw_i_X3_outcomeFrom jw_s_X3_outcomeFrom jw_n_X3 jw_c_X3_outcomeFrom) rfl rfl rfl jd_X3_outcomeFrom ⟨Nat.le_of_ble_eq_true rfl, Nat.le_of_ble_eq_true rfl⟩ rfl rfl (Nat.le_of_ble_eq_true rfl) (by decide) (okc_0 hy (by decide)) rfl dX11_harsh_92 rfl ?_
      refine v_bipush (pc := 95) (v := 8) K dX11_harsh_95 rfl ?_
      refine v_icmp_ne (pc := 97) (tgt := 109) K dX11_harsh_97 (by decide) hF (fun c33 hF => ?_) (fun c33 hF => ?_)
      · exact bX11_harsh_109 l K hy hQ ih hF
      · refine v_iload (pc := 100) K dX11_harsh_100 1 rfl ?_
        refine v_iconst (pc := 102) (v := 1) K dX11_harsh_102 rfl ?_
        refine v_iload (pc := 103) K dX11_harsh_103 2 rfl ?_
        refine v_ishl (pc := 105) K dX11_harsh_105 ?_
        refine v_ior (pc := 106) K dX11_harsh_106 ?_
        refine v_istore (pc := 107) (lv' := [(5, .int (x5 ||| ((1 : Int32) <<< (x6 &&& (31 : Int32))))), (0, .ref (ly_o y 0)), (6, .int x6)]) K 5 dX11_harsh_107 (by decide) rfl ?_
        refine v_sub [1, 0, 2] rfl ?_
        exact bX11_harsh_109 l K hy hQ ih hF
def fX11_harsh (M : QM) (x1 : Int32) (x2 : Int32) (x3 : Int32) (x4 : Int32) : Option (Int32 × QM) := (q_b (fX11_hasCode M x1) fun r2 M3 => if r2 = (0 : Int32) then some ((-1 : Int32), M3) else (q_b (fX11_areTwo M3 x2 x3) fun r5 M6 => if r5 = (0 : Int32) then some ((-1 : Int32), M6) else (q_b (fX11_isWithin M6 x4 (0 : Int32) (9 : Int32)) fun r8 M9 => if r8 ≠ (0 : Int32) then (q_b (fX11_codeAt M9 x1) fun r11 M12 => (if kls r11 = 2 then (q_b (fX11_codeAt M12 x1) fun r15 M16 => (if kls r15 = 2 then (q_bv (fX0_set M16 20 x2 x3 x4 r11 r15) fun M20 => (q_bv (fX3_begin M20) fun M23 => (fX11_harsh_b68 q_F M23 (0 : Int32) (0 : Int32)))) else none)) else none)) else some ((-1 : Int32), M9))))
set_option maxRecDepth 100000 in
set_option maxHeartbeats 4000000 in
theorem bX11_harsh_0 {x : Cx} {y : Ly} (l : Launch) (K : VK x l rmX11_harsh y 7 cX11_harsh RX11 wqX11_harsh) (hy : y.2.2.2.2 = 0) {z : Int32 × QM} (hQ : VQ x y (some (.int z.1)) z.2 (some .int)) {M : QM} {x1 : Int32} {x2 : Int32} {x3 : Int32} {x4 : Int32} (hF : fX11_harsh M x1 x2 x3 x4 = some z) : V x y 7 M 0 [(0, .ref (ly_o y 0)), (1, .int x1), (2, .int x2), (3, .int x3), (4, .int x4)] [] := by
  unfold fX11_harsh at hF
  refine v_aload_n (pc := 0) K dX11_harsh_0 0 rfl ?_
  refine v_iload_n (pc := 1) K dX11_harsh_1 1 rfl ?_
  obtain ⟨r2, M3, hc1, hF⟩ := q_bE hF
  refine v_callV (pc := 2) (ci := 10) (As := [.int x1]) (rest := []) (st' := [.int r2]) (r := some (.int r2)) (M1 := M3) K (kX11_hasCode l K.2.2.2.2.2.2.1 hy hc1) (jg_V jl_X11_111 jw_i_X11_hasCode jw_s_X11_hasCode jw_n_X11 jw_c_X11_hasCode) rfl rfl rfl jd_X11_hasCode ⟨Nat.le_of_ble_eq_true rfl, Nat.le_of_ble_eq_true rfl⟩ rfl rfl (Nat.le_of_ble_eq_true rfl) (by decide) (okc_0 hy (by decide)) rfl dX11_harsh_2 rfl ?_
  refine v_if_eq (pc := 5) (tgt := 28) K dX11_harsh_5 (by decide) hF (fun c26 hF => ?_) (fun c26 hF => ?_)
  · refine v_iconst (pc := 28) (v := -1) K dX11_harsh_28 rfl ?_
    have hz := (Option.some.inj hF).symm
    subst hz
    exact v_iret (pc := 29) K hQ dX11_harsh_29
  · refine v_aload_n (pc := 8) K dX11_harsh_8 0 rfl ?_
    refine v_iload_n (pc := 9) K dX11_harsh_9 2 rfl ?_
    refine v_iload_n (pc := 10) K dX11_harsh_10 3 rfl ?_
    obtain ⟨r5, M6, hc4, hF⟩ := q_bE hF
    refine v_callV (pc := 11) (ci := 10) (As := [.int x2, .int x3]) (rest := []) (st' := [.int r5]) (r := some (.int r5)) (M1 := M6) K (kX11_areTwo l K.2.2.2.2.2.2.1 hy hc4) (jg_V jl_X11_81 jw_i_X11_areTwo jw_s_X11_areTwo jw_n_X11 jw_c_X11_areTwo) rfl rfl rfl jd_X11_areTwo ⟨Nat.le_of_ble_eq_true rfl, Nat.le_of_ble_eq_true rfl⟩ rfl rfl (Nat.le_of_ble_eq_true rfl) (by decide) (okc_0 hy (by decide)) rfl dX11_harsh_11 rfl ?_
    refine v_if_eq (pc := 14) (tgt := 28) K dX11_harsh_14 (by decide) hF (fun c25 hF => ?_) (fun c25 hF => ?_)
    · refine v_iconst (pc := 28) (v := -1) K dX11_harsh_28 rfl ?_
      have hz := (Option.some.inj hF).symm
      subst hz
      exact v_iret (pc := 29) K hQ dX11_harsh_29
    · refine v_iload (pc := 17) K dX11_harsh_17 4 rfl ?_
      refine v_iconst (pc := 19) (v := 0) K dX11_harsh_19 rfl ?_
      refine v_bipush (pc := 20) (v := 9) K dX11_harsh_20 rfl ?_
      obtain ⟨r8, M9, hc7, hF⟩ := q_bE hF
      refine v_callS (pc := 22) (As := [.int x4, .int (0 : Int32), .int (9 : Int32)]) (rest := []) (st' := [.int r8]) (r := some (.int r8)) (M1 := M9) K (kX11_isWithin l K.2.2.2.2.2.2.1 hy hc7) (jg_S jl_X11_73 jw_t_X11_isWithin jw_n_X11 jw_c_X11_isWithin) rfl rfl rfl jd_X11_isWithin ⟨Nat.le_of_ble_eq_true rfl, Nat.le_of_ble_eq_true rfl⟩ rfl rfl (Nat.le_of_ble_eq_true rfl) dX11_harsh_22 rfl ?_
      refine v_if_ne (pc := 25) (tgt := 30) K dX11_harsh_25 (by decide) hF (fun c24 hF => ?_) (fun c24 hF => ?_)
      · refine v_aload_n (pc := 30) K dX11_harsh_30 0 rfl ?_
        refine gX11_affair (pc := 31) K hy (by decide) jn_X11 (List.mem_cons_of_mem _ jl_X11_55) dX11_harsh_31 ?_
        refine v_aload_n (pc := 34) K dX11_harsh_34 0 rfl ?_
        refine gX11_book (pc := 35) K hy (by decide) jn_X11 (List.mem_cons_of_mem _ jl_X11_37) dX11_harsh_35 ?_
        refine v_iload_n (pc := 38) K dX11_harsh_38 2 rfl ?_
        refine v_iload_n (pc := 39) K dX11_harsh_39 3 rfl ?_
        refine v_iload (pc := 40) K dX11_harsh_40 4 rfl ?_
        refine v_aload_n (pc := 42) K dX11_harsh_42 0 rfl ?_
        refine v_iload_n (pc := 43) K dX11_harsh_43 1 rfl ?_
        obtain ⟨r11, M12, hc10, hF⟩ := q_bE hF
        obtain ⟨ho13, hF⟩ := q_kE hF
        refine v_callV (pc := 44) (ci := 10) (As := [.int x1]) (rest := [.int x4, .int x3, .int x2, .ref (ly_o y 20), .ref (ly_o y 4)]) (st' := [.ref (ly_o y r11), .int x4, .int x3, .int x2, .ref (ly_o y 20), .ref (ly_o y 4)]) (r := some (.ref (ly_o y r11))) (M1 := M12) K (kX11_codeAt l K.2.2.2.2.2.2.1 hy hc10) (jg_V jl_X11_118 jw_i_X11_codeAt jw_s_X11_codeAt jw_n_X11 jw_c_X11_codeAt) rfl rfl rfl jd_X11_codeAt ⟨Nat.le_of_ble_eq_true rfl, Nat.le_of_ble_eq_true rfl⟩ rfl rfl (Nat.le_of_ble_eq_true rfl) (by decide) (okc_0 hy (by decide)) rfl dX11_harsh_44 rfl ?_
        refine v_aload_n (pc := 47) K dX11_harsh_47 0 rfl ?_
        refine v_iload_n (pc := 48) K dX11_harsh_48 1 rfl ?_
        obtain ⟨r15, M16, hc14, hF⟩ := q_bE hF
        obtain ⟨ho17, hF⟩ := q_kE hF
        refine v_callV (pc := 49) (ci := 10) (As := [.int x1]) (rest := [.ref (ly_o y r11), .int x4, .int x3, .int x2, .ref (ly_o y 20), .ref (ly_o y 4)]) (st' := [.ref (ly_o y r15), .ref (ly_o y r11), .int x4, .int x3, .int x2, .ref (ly_o y 20), .ref (ly_o y 4)]) (r := some (.ref (ly_o y r15))) (M1 := M16) K (kX11_codeAt l K.2.2.2.2.2.2.1 hy hc14) (jg_V jl_X11_118 jw_i_X11_codeAt jw_s_X11_codeAt jw_n_X11 jw_c_X11_codeAt) rfl rfl rfl jd_X11_codeAt ⟨Nat.le_of_ble_eq_true rfl, Nat.le_of_ble_eq_true rfl⟩ rfl rfl (Nat.le_of_ble_eq_true rfl) (by decide) (okc_0 hy (by decide)) rfl dX11_harsh_49 rfl ?_
        obtain ⟨M20, hc18, hF⟩ := q_bvE hF
        refine v_callV (pc := 52) (ci := 0) (As := [.ref (ly_o y 20), .int x2, .int x3, .int x4, .ref (ly_o y r11), .ref (ly_o y r15)]) (rest := []) (st' := []) (r := none) (M1 := M20) K (kX0_set l K.2.2.2.2.2.2.1 hy (by decide) ho13 ho17 hc18) (jg_V jl_X11_265 jw_i_X0_set jw_s_X0_set jw_n_X0 jw_c_X0_set) rfl rfl rfl jd_X0_set ⟨Nat.le_of_ble_eq_true rfl, Nat.le_of_ble_eq_true rfl⟩ rfl rfl (Nat.le_of_ble_eq_true rfl) (by decide) (okc_0 hy (by decide)) rfl dX11_harsh_52 rfl ?_
        refine v_aload_n (pc := 55) K dX11_harsh_55 0 rfl ?_
        refine gX11_play (pc := 56) K hy (by decide) jn_X11 (List.mem_cons_of_mem _ jl_X11_62) dX11_harsh_56 ?_
        obtain ⟨M23, hc21, hF⟩ := q_bvE hF
        refine v_callV (pc := 59) (ci := 3) (As := []) (rest := []) (st' := []) (r := none) (M1 := M23) K (kX3_begin l K.2.2.2.2.2.2.1 hy hc21) (jg_V jl_X11_236 jw_i_X3_begin jw_s_X3_begin jw_n_X3 jw_c_X3_begin) rfl rfl rfl jd_X3_begin ⟨Nat.le_of_ble_eq_true rfl, Nat.le_of_ble_eq_true rfl⟩ rfl rfl (Nat.le_of_ble_eq_true rfl) (by decide) (okc_0 hy (by decide)) rfl dX11_harsh_59 rfl ?_
        refine v_iconst (pc := 62) (v := 0) K dX11_harsh_62 rfl ?_
        refine v_istore (pc := 63) (lv' := [(5, .int (0 : Int32)), (0, .ref (ly_o y 0)), (1, .int x1), (2, .int x2), (3, .int x3), (4, .int x4)]) K 5 dX11_harsh_63 (by decide) rfl ?_
        refine v_iconst (pc := 65) (v := 0) K dX11_harsh_65 rfl ?_
        refine v_istore (pc := 66) (lv' := [(6, .int (0 : Int32)), (5, .int (0 : Int32)), (0, .ref (ly_o y 0)), (1, .int x1), (2, .int x2), (3, .int x3), (4, .int x4)]) K 6 dX11_harsh_66 (by decide) rfl ?_
        refine v_sub [2, 1, 0] rfl ?_
        exact bX11_harsh_68 l K hy hQ q_F hF
      · refine v_iconst (pc := 28) (v := -1) K dX11_harsh_28 rfl ?_
        have hz := (Option.some.inj hF).symm
        subst hz
        exact v_iret (pc := 29) K hQ dX11_harsh_29
set_option maxRecDepth 100000 in
set_option maxHeartbeats 4000000 in
theorem kX11_harsh (l : Launch) {y : Ly} (hJ : ly_J y) (hy : y.2.2.2.2 = 0) {M M1 : QM} {r : Int32} {x1 : Int32} {x2 : Int32} {x3 : Int32} {x4 : Int32} (hF : fX11_harsh M x1 x2 x3 x4 = some (r, M1)) : Met l yX11_harsh wqX11_harsh rmX11_harsh (q_P y [.ref (ly_o y 0), .int x1, .int x2, .int x3, .int x4] M) (q_E y (some (.int r)) M1) 0 0 (ly_A y) :=
  q_met (by decide) rfl hJ rfl rfl rfl (fun x K hQ => bX11_harsh_0 l K hy (z := (r, M1)) hQ  hF)
-- ===== X11_mend (IIIII)I
theorem jd_X11_mend : yX11_mend.cls = RX11 ∧ yX11_mend.cls ≠ "java/lang/invoke/MethodHandle" ∧ yX11_mend.cls ≠ "java/lang/invoke/VarHandle" ∧ (parseMethodDescriptor yX11_mend.desc).map (fun d => d.parameters.length) = some 5 := by decide +kernel
abbrev wqX11_mend : List Cond := .code yX11_mend cX11_mend 10 (some .int) :: wsL_law
abbrev rmX11_mend : Room := { frames := 21, cells := 0, slots := 0, locals := 601 }
def fX11_mend_b157 (k90 : QM → Int32 → Nat → Int32 → Int32 → Int32 → Option (Int32 × QM)) (k80 : QM → Int32 → Nat → Int32 → Int32 → Option (Int32 × QM)) (M : QM) (x5 : Int32) (o6 : Nat) (x7 : Int32) (x8 : Int32) (x9 : Int32) : Option (Int32 × QM) := (k90 M x5 o6 x7 x8 (x9 + (1 : Int32)))
set_option maxRecDepth 100000 in
set_option maxHeartbeats 4000000 in
theorem bX11_mend_157 {x : Cx} {y : Ly} (l : Launch) (K : VK x l rmX11_mend y 10 cX11_mend RX11 wqX11_mend) (hy : y.2.2.2.2 = 0) {z : Int32 × QM} (hQ : VQ x y (some (.int z.1)) z.2 (some .int)) {k90 : QM → Int32 → Nat → Int32 → Int32 → Int32 → Option (Int32 × QM)} (hk90 : ∀ {M : QM} {x5 : Int32} {o6 : Nat} {x7 : Int32} {x8 : Int32} {x9 : Int32}, kls o6 = 2 → k90 M x5 o6 x7 x8 x9 = some z → V x y 10 M 90 [(0, .ref (ly_o y 0)), (5, .int x5), (6, .ref (ly_o y o6)), (7, .int x7), (8, .int x8), (9, .int x9)] []) {k80 : QM → Int32 → Nat → Int32 → Int32 → Option (Int32 × QM)} (hk80 : ∀ {M : QM} {x5 : Int32} {o6 : Nat} {x7 : Int32} {x8 : Int32}, kls o6 = 2 → k80 M x5 o6 x7 x8 = some z → V x y 10 M 80 [(0, .ref (ly_o y 0)), (5, .int x5), (6, .ref (ly_o y o6)), (7, .int x7), (8, .int x8)] []) {M : QM} {x5 : Int32} {o6 : Nat} {x7 : Int32} {x8 : Int32} {x9 : Int32} (ho6 : kls o6 = 2) (hF : fX11_mend_b157 k90 k80 M x5 o6 x7 x8 x9 = some z) : V x y 10 M 157 [(0, .ref (ly_o y 0)), (5, .int x5), (6, .ref (ly_o y o6)), (7, .int x7), (8, .int x8), (9, .int x9)] [] := by
  unfold fX11_mend_b157 at hF
  refine v_iinc (pc := 157) (v1 := x9 + (1 : Int32)) (lv' := [(9, .int (x9 + (1 : Int32))), (0, .ref (ly_o y 0)), (5, .int x5), (6, .ref (ly_o y o6)), (7, .int x7), (8, .int x8)]) K dX11_mend_157 5 rfl rfl (by decide) rfl ?_
  refine v_goto (pc := 160) (tgt := 90) K dX11_mend_160 (by decide) ?_
  refine v_sub [1, 2, 3, 4, 5, 0] rfl ?_
  exact hk90 ho6 hF
def fX11_mend_b163 (k80 : QM → Int32 → Nat → Int32 → Int32 → Option (Int32 × QM)) (M : QM) (x5 : Int32) (o6 : Nat) (x7 : Int32) (x8 : Int32) : Option (Int32 × QM) := (k80 M x5 o6 x7 (x8 + (1 : Int32)))
set_option maxRecDepth 100000 in
set_option maxHeartbeats 4000000 in
theorem bX11_mend_163 {x : Cx} {y : Ly} (l : Launch) (K : VK x l rmX11_mend y 10 cX11_mend RX11 wqX11_mend) (hy : y.2.2.2.2 = 0) {z : Int32 × QM} (hQ : VQ x y (some (.int z.1)) z.2 (some .int)) {k80 : QM → Int32 → Nat → Int32 → Int32 → Option (Int32 × QM)} (hk80 : ∀ {M : QM} {x5 : Int32} {o6 : Nat} {x7 : Int32} {x8 : Int32}, kls o6 = 2 → k80 M x5 o6 x7 x8 = some z → V x y 10 M 80 [(0, .ref (ly_o y 0)), (5, .int x5), (6, .ref (ly_o y o6)), (7, .int x7), (8, .int x8)] []) {M : QM} {x5 : Int32} {o6 : Nat} {x7 : Int32} {x8 : Int32} (ho6 : kls o6 = 2) (hF : fX11_mend_b163 k80 M x5 o6 x7 x8 = some z) : V x y 10 M 163 [(0, .ref (ly_o y 0)), (5, .int x5), (6, .ref (ly_o y o6)), (7, .int x7), (8, .int x8)] [] := by
  unfold fX11_mend_b163 at hF
  refine v_iinc (pc := 163) (v1 := x8 + (1 : Int32)) (lv' := [(8, .int (x8 + (1 : Int32))), (0, .ref (ly_o y 0)), (5, .int x5), (6, .ref (ly_o y o6)), (7, .int x7)]) K dX11_mend_163 4 rfl rfl (by decide) rfl ?_
  refine v_goto (pc := 166) (tgt := 80) K dX11_mend_166 (by decide) ?_
  refine v_sub [1, 2, 3, 4, 0] rfl ?_
  exact hk80 ho6 hF
def fX11_mend_b90 (k80 : QM → Int32 → Nat → Int32 → Int32 → Option (Int32 × QM)) : Nat → QM → Int32 → Nat → Int32 → Int32 → Int32 → Option (Int32 × QM)
  | 0, _, _, _, _, _, _ => none
  | q + 1, M, x5, o6, x7, x8, x9 => if x7 ≤ x9 then (fX11_mend_b163 k80 M x5 o6 x7 x8) else (q_b (fJ6_bitCount_0f7a4 M x9) fun r29 M30 => if r29 ≠ x8 then (fX11_mend_b157 (fun M x5 o6 x7 x8 x9 => fX11_mend_b90 k80 q M x5 o6 x7 x8 x9) k80 M30 x5 o6 x7 x8 x9) else (q_b (fX2_backClauses M30 o6 x9) fun r32 M33 => (q_t (p_i M33 4 5 r32) fun M34 => (q_bv (fX3_begin M34) fun M37 => (q_b (fX0_open M37 x5 (1 : Int32)) fun r39 M40 => (q_b (fX3_outcomeFrom M40 r39) fun r42 M43 => if r42 = (8 : Int32) then (fX11_mend_b157 (fun M x5 o6 x7 x8 x9 => fX11_mend_b90 k80 q M x5 o6 x7 x8 x9) k80 M43 x5 o6 x7 x8 x9) else some (x9, M43)))))))
set_option maxRecDepth 100000 in
set_option maxHeartbeats 4000000 in
theorem bX11_mend_90 {x : Cx} {y : Ly} (l : Launch) (K : VK x l rmX11_mend y 10 cX11_mend RX11 wqX11_mend) (hy : y.2.2.2.2 = 0) {z : Int32 × QM} (hQ : VQ x y (some (.int z.1)) z.2 (some .int)) {k80 : QM → Int32 → Nat → Int32 → Int32 → Option (Int32 × QM)} (hk80 : ∀ {M : QM} {x5 : Int32} {o6 : Nat} {x7 : Int32} {x8 : Int32}, kls o6 = 2 → k80 M x5 o6 x7 x8 = some z → V x y 10 M 80 [(0, .ref (ly_o y 0)), (5, .int x5), (6, .ref (ly_o y o6)), (7, .int x7), (8, .int x8)] []) : ∀ (q : Nat) {M : QM} {x5 : Int32} {o6 : Nat} {x7 : Int32} {x8 : Int32} {x9 : Int32}, kls o6 = 2 →  fX11_mend_b90 k80 q M x5 o6 x7 x8 x9 = some z → V x y 10 M 90 [(0, .ref (ly_o y 0)), (5, .int x5), (6, .ref (ly_o y o6)), (7, .int x7), (8, .int x8), (9, .int x9)] [] := by
  intro q
  induction q with
  | zero =>
    intro M x5 o6 x7 x8 x9 ho6 hF
    rw [fX11_mend_b90] at hF
    cases hF
  | succ q ih =>
    intro M x5 o6 x7 x8 x9 ho6 hF
    rw [fX11_mend_b90] at hF
    refine v_iload (pc := 90) K dX11_mend_90 5 rfl ?_
    refine v_iload (pc := 92) K dX11_mend_92 3 rfl ?_
    refine v_icmp_ge (pc := 94) (tgt := 163) K dX11_mend_94 (by decide) hF (fun c46 hF => ?_) (fun c46 hF => ?_)
    · refine v_sub [0, 1, 2, 3, 4] rfl ?_
      exact bX11_mend_163 l K hy hQ hk80 ho6 hF
    · refine v_iload (pc := 97) K dX11_mend_97 5 rfl ?_
      obtain ⟨r29, M30, hc28, hF⟩ := q_bE hF
      refine v_callS (pc := 99) (As := [.int x9]) (rest := []) (st' := [.int r29]) (r := some (.int r29)) (M1 := M30) K (kJ6_bitCount_0f7a4 l K.2.2.2.2.2.2.1 hy hc28) (jg_S jl_X11_272 jw_t_J6_bitCount_0f7a4 jw_n_J6 jw_c_J6_bitCount_0f7a4) rfl rfl rfl jd_J6_bitCount_0f7a4 ⟨Nat.le_of_ble_eq_true rfl, Nat.le_of_ble_eq_true rfl⟩ rfl rfl (Nat.le_of_ble_eq_true rfl) dX11_mend_99 rfl ?_
      refine v_iload (pc := 102) K dX11_mend_102 4 rfl ?_
      refine v_icmp_ne (pc := 104) (tgt := 157) K dX11_mend_104 (by decide) hF (fun c45 hF => ?_) (fun c45 hF => ?_)
      · exact bX11_mend_157 l K hy hQ ih hk80 ho6 hF
      · refine v_aload_n (pc := 107) K dX11_mend_107 0 rfl ?_
        refine gX11_affair (pc := 108) K hy (by decide) jn_X11 (List.mem_cons_of_mem _ jl_X11_55) dX11_mend_108 ?_
        refine v_aload (pc := 111) K dX11_mend_111 2 rfl ?_
        refine v_iload (pc := 113) K dX11_mend_113 5 rfl ?_
        obtain ⟨r32, M33, hc31, hF⟩ := q_bE hF
        refine v_callV (pc := 115) (ci := 2) (As := [.int x9]) (rest := [.ref (ly_o y 4)]) (st' := [.int r32, .ref (ly_o y 4)]) (r := some (.int r32)) (M1 := M33) K (kX2_backClauses l K.2.2.2.2.2.2.1 hy ho6 hc31) (jg_V jl_X11_277 jw_i_X2_backClauses jw_s_X2_backClauses jw_n_X2 jw_c_X2_backClauses) rfl rfl rfl jd_X2_backClauses ⟨Nat.le_of_ble_eq_true rfl, Nat.le_of_ble_eq_true rfl⟩ rfl rfl (Nat.le_of_ble_eq_true rfl) ho6 (okc_0 hy (by decide)) rfl dX11_mend_115 rfl ?_
        refine pX0_raised (pc := 118) K hy (by decide) jn_X0 (List.mem_cons_of_mem _ jl_X11_280) dX11_mend_118 ?_
        refine v_nmM hF (fun M34 hF => ?_)
        refine v_aload_n (pc := 121) K dX11_mend_121 0 rfl ?_
        refine gX11_play (pc := 122) K hy (by decide) jn_X11 (List.mem_cons_of_mem _ jl_X11_62) dX11_mend_122 ?_
        obtain ⟨M37, hc35, hF⟩ := q_bvE hF
        refine v_callV (pc := 125) (ci := 3) (As := []) (rest := []) (st' := []) (r := none) (M1 := M37) K (kX3_begin l K.2.2.2.2.2.2.1 hy hc35) (jg_V jl_X11_236 jw_i_X3_begin jw_s_X3_begin jw_n_X3 jw_c_X3_begin) rfl rfl rfl jd_X3_begin ⟨Nat.le_of_ble_eq_true rfl, Nat.le_of_ble_eq_true rfl⟩ rfl rfl (Nat.le_of_ble_eq_true rfl) (by decide) (okc_0 hy (by decide)) rfl dX11_mend_125 rfl ?_
        refine v_aload_n (pc := 128) K dX11_mend_128 0 rfl ?_
        refine gX11_play (pc := 129) K hy (by decide) jn_X11 (List.mem_cons_of_mem _ jl_X11_62) dX11_mend_129 ?_
        refine v_aload_n (pc := 132) K dX11_mend_132 0 rfl ?_
        refine gX11_affair (pc := 133) K hy (by decide) jn_X11 (List.mem_cons_of_mem _ jl_X11_55) dX11_mend_133 ?_
        refine v_aload_n (pc := 136) K dX11_mend_136 0 rfl ?_
        refine gX11_affair (pc := 137) K hy (by decide) jn_X11 (List.mem_cons_of_mem _ jl_X11_55) dX11_mend_137 ?_
        refine v_iload (pc := 140) K dX11_mend_140 1 rfl ?_
        refine v_iconst (pc := 142) (v := 1) K dX11_mend_142 rfl ?_
        obtain ⟨r39, M40, hc38, hF⟩ := q_bE hF
        refine v_callV (pc := 143) (ci := 0) (As := [.int x5, .int (1 : Int32)]) (rest := [.ref (ly_o y 4), .ref (ly_o y 5)]) (st' := [.int r39, .ref (ly_o y 4), .ref (ly_o y 5)]) (r := some (.int r39)) (M1 := M40) K (kX0_open l K.2.2.2.2.2.2.1 hy hc38) (jg_V jl_X11_165 jw_i_X0_open jw_s_X0_open jw_n_X0 jw_c_X0_open) rfl rfl rfl jd_X0_open ⟨Nat.le_of_ble_eq_true rfl, Nat.le_of_ble_eq_true rfl⟩ rfl rfl (Nat.le_of_ble_eq_true rfl) (by decide) (okc_0 hy (by decide)) rfl dX11_mend_143 rfl ?_
        obtain ⟨r42, M43, hc41, hF⟩ := q_bE hF
        refine v_callV (pc := 146) (ci := 3) (As := [.ref (ly_o y 4), .int r39]) (rest := []) (st' := [.int r42]) (r := some (.int r42)) (M1 := M43) K (kX3_outcomeFrom l K.2.2.2.2.2.2.1 hy hc41) (jg_V jl_X11_239 jw_i_X3_outcomeFrom jw_s_X3_outcomeFrom jw_n_X3 jw_c_X3_outcomeFrom) rfl rfl rfl jd_X3_outcomeFrom ⟨Nat.le_of_ble_eq_true rfl, Nat.le_of_ble_eq_true rfl⟩ rfl rfl (Nat.le_of_ble_eq_true rfl) (by decide) (okc_0 hy (by decide)) rfl dX11_mend_146 rfl ?_
        refine v_bipush (pc := 149) (v := 8) K dX11_mend_149 rfl ?_
        refine v_icmp_eq (pc := 151) (tgt := 157) K dX11_mend_151 (by decide) hF (fun c44 hF => ?_) (fun c44 hF => ?_)
        · exact bX11_mend_157 l K hy hQ ih hk80 ho6 hF
        · refine v_iload (pc := 154) K dX11_mend_154 5 rfl ?_
          have hz := (Option.some.inj hF).symm
          subst hz
          exact v_iret (pc := 156) K hQ dX11_mend_156
def fX11_mend_b80 : Nat → QM → Int32 → Nat → Int32 → Int32 → Option (Int32 × QM)
  | 0, _, _, _, _, _ => none
  | q + 1, M, x5, o6, x7, x8 => if (6 : Int32) < x8 then some ((-2 : Int32), M) else (fX11_mend_b90 (fun M x5 o6 x7 x8 => fX11_mend_b80 q M x5 o6 x7 x8) q_F M x5 o6 x7 x8 (0 : Int32))
set_option maxRecDepth 100000 in
set_option maxHeartbeats 4000000 in
theorem bX11_mend_80 {x : Cx} {y : Ly} (l : Launch) (K : VK x l rmX11_mend y 10 cX11_mend RX11 wqX11_mend) (hy : y.2.2.2.2 = 0) {z : Int32 × QM} (hQ : VQ x y (some (.int z.1)) z.2 (some .int)) : ∀ (q : Nat) {M : QM} {x5 : Int32} {o6 : Nat} {x7 : Int32} {x8 : Int32}, kls o6 = 2 →  fX11_mend_b80 q M x5 o6 x7 x8 = some z → V x y 10 M 80 [(0, .ref (ly_o y 0)), (5, .int x5), (6, .ref (ly_o y o6)), (7, .int x7), (8, .int x8)] [] := by
  intro q
  induction q with
  | zero =>
    intro M x5 o6 x7 x8 ho6 hF
    rw [fX11_mend_b80] at hF
    cases hF
  | succ q ih =>
    intro M x5 o6 x7 x8 ho6 hF
    rw [fX11_mend_b80] at hF
    refine v_iload (pc := 80) K dX11_mend_80 4 rfl ?_
    refine v_bipush (pc := 82) (v := 6) K dX11_mend_82 rfl ?_
    refine v_icmp_gt (pc := 84) (tgt := 169) K dX11_mend_84 (by decide) hF (fun c27 hF => ?_) (fun c27 hF => ?_)
    · refine v_bipush (pc := 169) (v := -2) K dX11_mend_169 rfl ?_
      have hz := (Option.some.inj hF).symm
      subst hz
      exact v_iret (pc := 171) K hQ dX11_mend_171
    · refine v_iconst (pc := 87) (v := 0) K dX11_mend_87 rfl ?_
      refine v_istore (pc := 88) (lv' := [(9, .int (0 : Int32)), (0, .ref (ly_o y 0)), (5, .int x5), (6, .ref (ly_o y o6)), (7, .int x7), (8, .int x8)]) K 9 dX11_mend_88 (by decide) rfl ?_
      refine v_sub [1, 2, 3, 4, 5, 0] rfl ?_
      exact bX11_mend_90 l K hy hQ ih q_F ho6 hF
def fX11_mend (M : QM) (x1 : Int32) (x2 : Int32) (x3 : Int32) (x4 : Int32) (x5 : Int32) : Option (Int32 × QM) := (q_b (fX11_hasCode M x1) fun r2 M3 => if r2 = (0 : Int32) then some ((-1 : Int32), M3) else (q_b (fX11_areTwo M3 x2 x3) fun r5 M6 => if r5 = (0 : Int32) then some ((-1 : Int32), M6) else (q_b (fX11_isWithin M6 x4 (0 : Int32) (9 : Int32)) fun r8 M9 => if r8 = (0 : Int32) then some ((-1 : Int32), M9) else (q_b (fX11_isWithin M9 x5 (0 : Int32) (3 : Int32)) fun r11 M12 => if r11 ≠ (0 : Int32) then (q_b (fX11_codeAt M12 x1) fun r14 M15 => (if kls r14 = 2 then (q_bv (fX0_set M15 20 x2 x3 x4 r14 r14) fun M19 => (q_b (fX2_countOfBacks M19 r14 (6 : Int32)) fun r21 M22 => (fX11_mend_b80 q_F M22 x5 r14 ((1 : Int32) <<< (r21 &&& (31 : Int32))) (0 : Int32)))) else none)) else some ((-1 : Int32), M12)))))
set_option maxRecDepth 100000 in
set_option maxHeartbeats 4000000 in
theorem bX11_mend_0 {x : Cx} {y : Ly} (l : Launch) (K : VK x l rmX11_mend y 10 cX11_mend RX11 wqX11_mend) (hy : y.2.2.2.2 = 0) {z : Int32 × QM} (hQ : VQ x y (some (.int z.1)) z.2 (some .int)) {M : QM} {x1 : Int32} {x2 : Int32} {x3 : Int32} {x4 : Int32} {x5 : Int32} (hF : fX11_mend M x1 x2 x3 x4 x5 = some z) : V x y 10 M 0 [(0, .ref (ly_o y 0)), (1, .int x1), (2, .int x2), (3, .int x3), (4, .int x4), (5, .int x5)] [] := by
  unfold fX11_mend at hF
  refine v_aload_n (pc := 0) K dX11_mend_0 0 rfl ?_
  refine v_iload_n (pc := 1) K dX11_mend_1 1 rfl ?_
  obtain ⟨r2, M3, hc1, hF⟩ := q_bE hF
  refine v_callV (pc := 2) (ci := 10) (As := [.int x1]) (rest := []) (st' := [.int r2]) (r := some (.int r2)) (M1 := M3) K (kX11_hasCode l K.2.2.2.2.2.2.1 hy hc1) (jg_V jl_X11_111 jw_i_X11_hasCode jw_s_X11_hasCode jw_n_X11 jw_c_X11_hasCode) rfl rfl rfl jd_X11_hasCode ⟨Nat.le_of_ble_eq_true rfl, Nat.le_of_ble_eq_true rfl⟩ rfl rfl (Nat.le_of_ble_eq_true rfl) (by decide) (okc_0 hy (by decide)) rfl dX11_mend_2 rfl ?_
  refine v_if_eq (pc := 5) (tgt := 38) K dX11_mend_5 (by decide) hF (fun c26 hF => ?_) (fun c26 hF => ?_)
  · refine v_iconst (pc := 38) (v := -1) K dX11_mend_38 rfl ?_
    have hz := (Option.some.inj hF).symm
    subst hz
    exact v_iret (pc := 39) K hQ dX11_mend_39
  · refine v_aload_n (pc := 8) K dX11_mend_8 0 rfl ?_
    refine v_iload_n (pc := 9) K dX11_mend_9 2 rfl ?_
    refine v_iload_n (pc := 10) K dX11_mend_10 3 rfl ?_
    obtain ⟨r5, M6, hc4, hF⟩ := q_bE hF
    refine v_callV (pc := 11) (ci := 10) (As := [.int x2, .int x3]) (rest := []) (st' := [.int r5]) (r := some (.int r5)) (M1 := M6) K (kX11_areTwo l K.2.2.2.2.2.2.1 hy hc4) (jg_V jl_X11_81 jw_i_X11_areTwo jw_s_X11_areTwo jw_n_X11 jw_c_X11_areTwo) rfl rfl rfl jd_X11_areTwo ⟨Nat.le_of_ble_eq_true rfl, Nat.le_of_ble_eq_true rfl⟩ rfl rfl (Nat.le_of_ble_eq_true rfl) (by decide) (okc_0 hy (by decide)) rfl dX11_mend_11 rfl ?_
    refine v_if_eq (pc := 14) (tgt := 38) K dX11_mend_14 (by decide) hF (fun c25 hF => ?_) (fun c25 hF => ?_)
    · refine v_iconst (pc := 38) (v := -1) K dX11_mend_38 rfl ?_
      have hz := (Option.some.inj hF).symm
      subst hz
      exact v_iret (pc := 39) K hQ dX11_mend_39
    · refine v_iload (pc := 17) K dX11_mend_17 4 rfl ?_
      refine v_iconst (pc := 19) (v := 0) K dX11_mend_19 rfl ?_
      refine v_bipush (pc := 20) (v := 9) K dX11_mend_20 rfl ?_
      obtain ⟨r8, M9, hc7, hF⟩ := q_bE hF
      refine v_callS (pc := 22) (As := [.int x4, .int (0 : Int32), .int (9 : Int32)]) (rest := []) (st' := [.int r8]) (r := some (.int r8)) (M1 := M9) K (kX11_isWithin l K.2.2.2.2.2.2.1 hy hc7) (jg_S jl_X11_73 jw_t_X11_isWithin jw_n_X11 jw_c_X11_isWithin) rfl rfl rfl jd_X11_isWithin ⟨Nat.le_of_ble_eq_true rfl, Nat.le_of_ble_eq_true rfl⟩ rfl rfl (Nat.le_of_ble_eq_true rfl) dX11_mend_22 rfl ?_
      refine v_if_eq (pc := 25) (tgt := 38) K dX11_mend_25 (by decide) hF (fun c24 hF => ?_) (fun c24 hF => ?_)
      · refine v_iconst (pc := 38) (v := -1) K dX11_mend_38 rfl ?_
        have hz := (Option.some.inj hF).symm
        subst hz
        exact v_iret (pc := 39) K hQ dX11_mend_39
      · refine v_iload (pc := 28) K dX11_mend_28 5 rfl ?_
        refine v_iconst (pc := 30) (v := 0) K dX11_mend_30 rfl ?_
        refine v_iconst (pc := 31) (v := 3) K dX11_mend_31 rfl ?_
        obtain ⟨r11, M12, hc10, hF⟩ := q_bE hF
        refine v_callS (pc := 32) (As := [.int x5, .int (0 : Int32), .int (3 : Int32)]) (rest := []) (st' := [.int r11]) (r := some (.int r11)) (M1 := M12) K (kX11_isWithin l K.2.2.2.2.2.2.1 hy hc10) (jg_S jl_X11_73 jw_t_X11_isWithin jw_n_X11 jw_c_X11_isWithin) rfl rfl rfl jd_X11_isWithin ⟨Nat.le_of_ble_eq_true rfl, Nat.le_of_ble_eq_true rfl⟩ rfl rfl (Nat.le_of_ble_eq_true rfl) dX11_mend_32 rfl ?_
        refine v_if_ne (pc := 35) (tgt := 40) K dX11_mend_35 (by decide) hF (fun c23 hF => ?_) (fun c23 hF => ?_)
        · refine v_aload_n (pc := 40) K dX11_mend_40 0 rfl ?_
          refine v_iload_n (pc := 41) K dX11_mend_41 1 rfl ?_
          obtain ⟨r14, M15, hc13, hF⟩ := q_bE hF
          obtain ⟨ho16, hF⟩ := q_kE hF
          refine v_callV (pc := 42) (ci := 10) (As := [.int x1]) (rest := []) (st' := [.ref (ly_o y r14)]) (r := some (.ref (ly_o y r14))) (M1 := M15) K (kX11_codeAt l K.2.2.2.2.2.2.1 hy hc13) (jg_V jl_X11_118 jw_i_X11_codeAt jw_s_X11_codeAt jw_n_X11 jw_c_X11_codeAt) rfl rfl rfl jd_X11_codeAt ⟨Nat.le_of_ble_eq_true rfl, Nat.le_of_ble_eq_true rfl⟩ rfl rfl (Nat.le_of_ble_eq_true rfl) (by decide) (okc_0 hy (by decide)) rfl dX11_mend_42 rfl ?_
          refine v_astore (pc := 45) (lv' := [(6, .ref (ly_o y r14)), (0, .ref (ly_o y 0)), (1, .int x1), (2, .int x2), (3, .int x3), (4, .int x4), (5, .int x5)]) K 6 dX11_mend_45 (by decide) rfl ?_
          refine v_aload_n (pc := 47) K dX11_mend_47 1 rfl ?_
          refine gX11_affair (pc := 48) K hy (by decide) jn_X11 (List.mem_cons_of_mem _ jl_X11_55) dX11_mend_48 ?_
          refine v_aload_n (pc := 51) K dX11_mend_51 1 rfl ?_
          refine gX11_book (pc := 52) K hy (by decide) jn_X11 (List.mem_cons_of_mem _ jl_X11_37) dX11_mend_52 ?_
          refine v_iload_n (pc := 55) K dX11_mend_55 3 rfl ?_
          refine v_iload_n (pc := 56) K dX11_mend_56 4 rfl ?_
          refine v_iload (pc := 57) K dX11_mend_57 5 rfl ?_
          refine v_aload (pc := 59) K dX11_mend_59 0 rfl ?_
          refine v_aload (pc := 61) K dX11_mend_61 0 rfl ?_
          obtain ⟨M19, hc17, hF⟩ := q_bvE hF
          refine v_callV (pc := 63) (ci := 0) (As := [.ref (ly_o y 20), .int x2, .int x3, .int x4, .ref (ly_o y r14), .ref (ly_o y r14)]) (rest := []) (st' := []) (r := none) (M1 := M19) K (kX0_set l K.2.2.2.2.2.2.1 hy (by decide) ho16 ho16 hc17) (jg_V jl_X11_265 jw_i_X0_set jw_s_X0_set jw_n_X0 jw_c_X0_set) rfl rfl rfl jd_X0_set ⟨Nat.le_of_ble_eq_true rfl, Nat.le_of_ble_eq_true rfl⟩ rfl rfl (Nat.le_of_ble_eq_true rfl) (by decide) (okc_0 hy (by decide)) rfl dX11_mend_63 rfl ?_
          refine v_iconst (pc := 66) (v := 1) K dX11_mend_66 rfl ?_
          refine v_aload (pc := 67) K dX11_mend_67 0 rfl ?_
          refine v_bipush (pc := 69) (v := 6) K dX11_mend_69 rfl ?_
          obtain ⟨r21, M22, hc20, hF⟩ := q_bE hF
          refine v_callV (pc := 71) (ci := 2) (As := [.int (6 : Int32)]) (rest := [.int (1 : Int32)]) (st' := [.int r21, .int (1 : Int32)]) (r := some (.int r21)) (M1 := M22) K (kX2_countOfBacks l K.2.2.2.2.2.2.1 hy ho16 hc20) (jg_V jl_X11_269 jw_i_X2_countOfBacks jw_s_X2_countOfBacks jw_n_X2 jw_c_X2_countOfBacks) rfl rfl rfl jd_X2_countOfBacks ⟨Nat.le_of_ble_eq_true rfl, Nat.le_of_ble_eq_true rfl⟩ rfl rfl (Nat.le_of_ble_eq_true rfl) ho16 (okc_0 hy (by decide)) rfl dX11_mend_71 rfl ?_
          refine v_ishl (pc := 74) K dX11_mend_74 ?_
          refine v_istore (pc := 75) (lv' := [(7, .int ((1 : Int32) <<< (r21 &&& (31 : Int32)))), (6, .ref (ly_o y r14)), (0, .ref (ly_o y 0)), (1, .int x1), (2, .int x2), (3, .int x3), (4, .int x4), (5, .int x5)]) K 7 dX11_mend_75 (by decide) rfl ?_
          refine v_iconst (pc := 77) (v := 0) K dX11_mend_77 rfl ?_
          refine v_istore (pc := 78) (lv' := [(8, .int (0 : Int32)), (7, .int ((1 : Int32) <<< (r21 &&& (31 : Int32)))), (6, .ref (ly_o y r14)), (0, .ref (ly_o y 0)), (1, .int x1), (2, .int x2), (3, .int x3), (4, .int x4), (5, .int x5)]) K 8 dX11_mend_78 (by decide) rfl ?_
          refine v_sub [3, 8, 2, 1, 0] rfl ?_
          exact bX11_mend_80 l K hy hQ q_F ho16 hF
        · refine v_iconst (pc := 38) (v := -1) K dX11_mend_38 rfl ?_
          have hz := (Option.some.inj hF).symm
          subst hz
          exact v_iret (pc := 39) K hQ dX11_mend_39
set_option maxRecDepth 100000 in
set_option maxHeartbeats 4000000 in
theorem kX11_mend (l : Launch) {y : Ly} (hJ : ly_J y) (hy : y.2.2.2.2 = 0) {M M1 : QM} {r : Int32} {x1 : Int32} {x2 : Int32} {x3 : Int32} {x4 : Int32} {x5 : Int32} (hF : fX11_mend M x1 x2 x3 x4 x5 = some (r, M1)) : Met l yX11_mend wqX11_mend rmX11_mend (q_P y [.ref (ly_o y 0), .int x1, .int x2, .int x3, .int x4, .int x5] M) (q_E y (some (.int r)) M1) 0 0 (ly_A y) :=
  q_met (by decide) rfl hJ rfl rfl rfl (fun x K hQ => bX11_mend_0 l K hy (z := (r, M1)) hQ  hF)
-- ===== X11_image (I)I
theorem jd_X11_image : yX11_image.cls = RX11 ∧ yX11_image.cls ≠ "java/lang/invoke/MethodHandle" ∧ yX11_image.cls ≠ "java/lang/invoke/VarHandle" ∧ (parseMethodDescriptor yX11_image.desc).map (fun d => d.parameters.length) = some 1 := by decide +kernel
abbrev wqX11_image : List Cond := .code yX11_image cX11_image 2 (some .int) :: wsL_law
abbrev rmX11_image : Room := { frames := 2, cells := 0, slots := 0, locals := 44 }
def fX11_image (M : QM) (x1 : Int32) : Option (Int32 × QM) := (q_b (fX11_isWithin M x1 (0 : Int32) (3 : Int32)) fun r2 M3 => if r2 ≠ (0 : Int32) then (if q_in x1 4 then (q_bv (fX1_copy M3 (el 0 5 x1.toNatClampNeg) 20) fun M7 => (if q_in x1 4 then (q_t (p_i M7 (el 0 5 x1.toNatClampNeg) 8 (1 : Int32)) fun M9 => some (q_i M9 20 7, M9)) else none)) else none) else some ((-1 : Int32), M3))
set_option maxRecDepth 100000 in
set_option maxHeartbeats 4000000 in
theorem bX11_image_0 {x : Cx} {y : Ly} (l : Launch) (K : VK x l rmX11_image y 2 cX11_image RX11 wqX11_image) (hy : y.2.2.2.2 = 0) {z : Int32 × QM} (hQ : VQ x y (some (.int z.1)) z.2 (some .int)) {M : QM} {x1 : Int32} (hF : fX11_image M x1 = some z) : V x y 2 M 0 [(0, .ref (ly_o y 0)), (1, .int x1)] [] := by
  unfold fX11_image at hF
  refine v_iload_n (pc := 0) K dX11_image_0 1 rfl ?_
  refine v_iconst (pc := 1) (v := 0) K dX11_image_1 rfl ?_
  refine v_iconst (pc := 2) (v := 3) K dX11_image_2 rfl ?_
  obtain ⟨r2, M3, hc1, hF⟩ := q_bE hF
  refine v_callS (pc := 3) (As := [.int x1, .int (0 : Int32), .int (3 : Int32)]) (rest := []) (st' := [.int r2]) (r := some (.int r2)) (M1 := M3) K (kX11_isWithin l K.2.2.2.2.2.2.1 hy hc1) (jg_S jl_X11_73 jw_t_X11_isWithin jw_n_X11 jw_c_X11_isWithin) rfl rfl rfl jd_X11_isWithin ⟨Nat.le_of_ble_eq_true rfl, Nat.le_of_ble_eq_true rfl⟩ rfl rfl (Nat.le_of_ble_eq_true rfl) dX11_image_3 rfl ?_
  refine v_if_ne (pc := 6) (tgt := 11) K dX11_image_6 (by decide) hF (fun c10 hF => ?_) (fun c10 hF => ?_)
  · refine v_aload_n (pc := 11) K dX11_image_11 0 rfl ?_
    refine gX11_images (pc := 12) K hy (by decide) jn_X11 (List.mem_cons_of_mem _ jl_X11_41) dX11_image_12 ?_
    refine v_iload_n (pc := 15) K dX11_image_15 1 rfl ?_
    refine iX11_images (pc := 16) K hy (by decide) hF dX11_image_16 (fun hi4 hF => ?_)
    refine v_aload_n (pc := 17) K dX11_image_17 0 rfl ?_
    refine gX11_book (pc := 18) K hy (by decide) jn_X11 (List.mem_cons_of_mem _ jl_X11_37) dX11_image_18 ?_
    obtain ⟨M7, hc5, hF⟩ := q_bvE hF
    refine v_callV (pc := 21) (ci := 1) (As := [.ref (ly_o y 20)]) (rest := []) (st' := []) (r := none) (M1 := M7) K (kX1_copy l K.2.2.2.2.2.2.1 hy (el_b  hi4) (by decide) hc5) (jg_V jl_X11_283 jw_i_X1_copy jw_s_X1_copy jw_n_X1 jw_c_X1_copy) rfl rfl rfl jd_X1_copy ⟨Nat.le_of_ble_eq_true rfl, Nat.le_of_ble_eq_true rfl⟩ rfl rfl (Nat.le_of_ble_eq_true rfl) (el_b  hi4) (okc_0 hy (by decide)) rfl dX11_image_21 rfl ?_
    refine v_aload_n (pc := 24) K dX11_image_24 0 rfl ?_
    refine gX11_images (pc := 25) K hy (by decide) jn_X11 (List.mem_cons_of_mem _ jl_X11_41) dX11_image_25 ?_
    refine v_iload_n (pc := 28) K dX11_image_28 1 rfl ?_
    refine iX11_images (pc := 29) K hy (by decide) hF dX11_image_29 (fun hi8 hF => ?_)
    refine v_iconst (pc := 30) (v := 1) K dX11_image_30 rfl ?_
    refine pX1_isMade (pc := 31) K hy (el_b  hi8) jn_X1 (List.mem_cons_of_mem _ jl_X11_287) (by decide) dX11_image_31 ?_
    refine v_nmM hF (fun M9 hF => ?_)
    refine v_aload_n (pc := 34) K dX11_image_34 0 rfl ?_
    refine gX11_book (pc := 35) K hy (by decide) jn_X11 (List.mem_cons_of_mem _ jl_X11_37) dX11_image_35 ?_
    refine gX1_quarrelCount (pc := 38) K hy (by decide) jn_X1 (List.mem_cons_of_mem _ jl_X11_291) dX11_image_38 ?_
    have hz := (Option.some.inj hF).symm
    subst hz
    exact v_iret (pc := 41) K hQ dX11_image_41
  · refine v_iconst (pc := 9) (v := -1) K dX11_image_9 rfl ?_
    have hz := (Option.some.inj hF).symm
    subst hz
    exact v_iret (pc := 10) K hQ dX11_image_10
set_option maxRecDepth 100000 in
set_option maxHeartbeats 4000000 in
theorem kX11_image (l : Launch) {y : Ly} (hJ : ly_J y) (hy : y.2.2.2.2 = 0) {M M1 : QM} {r : Int32} {x1 : Int32} (hF : fX11_image M x1 = some (r, M1)) : Met l yX11_image wqX11_image rmX11_image (q_P y [.ref (ly_o y 0), .int x1] M) (q_E y (some (.int r)) M1) 0 0 (ly_A y) :=
  q_met (by decide) rfl hJ rfl rfl rfl (fun x K hQ => bX11_image_0 l K hy (z := (r, M1)) hQ  hF)
-- ===== X11_back (I)I
theorem jd_X11_back : yX11_back.cls = RX11 ∧ yX11_back.cls ≠ "java/lang/invoke/MethodHandle" ∧ yX11_back.cls ≠ "java/lang/invoke/VarHandle" ∧ (parseMethodDescriptor yX11_back.desc).map (fun d => d.parameters.length) = some 1 := by decide +kernel
abbrev wqX11_back : List Cond := .code yX11_back cX11_back 2 (some .int) :: wsL_law
abbrev rmX11_back : Room := { frames := 2, cells := 0, slots := 0, locals := 44 }
def fX11_back (M : QM) (x1 : Int32) : Option (Int32 × QM) := (q_b (fX11_isWithin M x1 (0 : Int32) (3 : Int32)) fun r2 M3 => if r2 = (0 : Int32) then some ((-1 : Int32), M3) else (if q_in x1 4 then if (q_i M3 (el 0 5 x1.toNatClampNeg) 8) ≠ (0 : Int32) then (if q_in x1 4 then (q_bv (fX1_copy M3 20 (el 0 5 x1.toNatClampNeg)) fun M8 => some (q_i M8 20 7, M8)) else none) else some ((-1 : Int32), M3) else none))
set_option maxRecDepth 100000 in
set_option maxHeartbeats 4000000 in
theorem bX11_back_0 {x : Cx} {y : Ly} (l : Launch) (K : VK x l rmX11_back y 2 cX11_back RX11 wqX11_back) (hy : y.2.2.2.2 = 0) {z : Int32 × QM} (hQ : VQ x y (some (.int z.1)) z.2 (some .int)) {M : QM} {x1 : Int32} (hF : fX11_back M x1 = some z) : V x y 2 M 0 [(0, .ref (ly_o y 0)), (1, .int x1)] [] := by
  unfold fX11_back at hF
  refine v_iload_n (pc := 0) K dX11_back_0 1 rfl ?_
  refine v_iconst (pc := 1) (v := 0) K dX11_back_1 rfl ?_
  refine v_iconst (pc := 2) (v := 3) K dX11_back_2 rfl ?_
  obtain ⟨r2, M3, hc1, hF⟩ := q_bE hF
  refine v_callS (pc := 3) (As := [.int x1, .int (0 : Int32), .int (3 : Int32)]) (rest := []) (st' := [.int r2]) (r := some (.int r2)) (M1 := M3) K (kX11_isWithin l K.2.2.2.2.2.2.1 hy hc1) (jg_S jl_X11_73 jw_t_X11_isWithin jw_n_X11 jw_c_X11_isWithin) rfl rfl rfl jd_X11_isWithin ⟨Nat.le_of_ble_eq_true rfl, Nat.le_of_ble_eq_true rfl⟩ rfl rfl (Nat.le_of_ble_eq_true rfl) dX11_back_3 rfl ?_
  refine v_if_eq (pc := 6) (tgt := 21) K dX11_back_6 (by decide) hF (fun c10 hF => ?_) (fun c10 hF => ?_)
  · refine v_iconst (pc := 21) (v := -1) K dX11_back_21 rfl ?_
    have hz := (Option.some.inj hF).symm
    subst hz
    exact v_iret (pc := 22) K hQ dX11_back_22
  · refine v_aload_n (pc := 9) K dX11_back_9 0 rfl ?_
    refine gX11_images (pc := 10) K hy (by decide) jn_X11 (List.mem_cons_of_mem _ jl_X11_41) dX11_back_10 ?_
    refine v_iload_n (pc := 13) K dX11_back_13 1 rfl ?_
    refine iX11_images (pc := 14) K hy (by decide) hF dX11_back_14 (fun hi4 hF => ?_)
    refine gX1_isMade (pc := 15) K hy (el_b  hi4) jn_X1 (List.mem_cons_of_mem _ jl_X11_287) dX11_back_15 ?_
    refine v_if_ne (pc := 18) (tgt := 23) K dX11_back_18 (by decide) hF (fun c9 hF => ?_) (fun c9 hF => ?_)
    · refine v_aload_n (pc := 23) K dX11_back_23 0 rfl ?_
      refine gX11_book (pc := 24) K hy (by decide) jn_X11 (List.mem_cons_of_mem _ jl_X11_37) dX11_back_24 ?_
      refine v_aload_n (pc := 27) K dX11_back_27 0 rfl ?_
      refine gX11_images (pc := 28) K hy (by decide) jn_X11 (List.mem_cons_of_mem _ jl_X11_41) dX11_back_28 ?_
      refine v_iload_n (pc := 31) K dX11_back_31 1 rfl ?_
      refine iX11_images (pc := 32) K hy (by decide) hF dX11_back_32 (fun hi5 hF => ?_)
      obtain ⟨M8, hc6, hF⟩ := q_bvE hF
      refine v_callV (pc := 33) (ci := 1) (As := [.ref (ly_o y (el 0 5 x1.toNatClampNeg))]) (rest := []) (st' := []) (r := none) (M1 := M8) K (kX1_copy l K.2.2.2.2.2.2.1 hy (by decide) (el_b  hi5) hc6) (jg_V jl_X11_283 jw_i_X1_copy jw_s_X1_copy jw_n_X1 jw_c_X1_copy) rfl rfl rfl jd_X1_copy ⟨Nat.le_of_ble_eq_true rfl, Nat.le_of_ble_eq_true rfl⟩ rfl rfl (Nat.le_of_ble_eq_true rfl) (by decide) (okc_0 hy (by decide)) rfl dX11_back_33 rfl ?_
      refine v_aload_n (pc := 36) K dX11_back_36 0 rfl ?_
      refine gX11_book (pc := 37) K hy (by decide) jn_X11 (List.mem_cons_of_mem _ jl_X11_37) dX11_back_37 ?_
      refine gX1_quarrelCount (pc := 40) K hy (by decide) jn_X1 (List.mem_cons_of_mem _ jl_X11_291) dX11_back_40 ?_
      have hz := (Option.some.inj hF).symm
      subst hz
      exact v_iret (pc := 43) K hQ dX11_back_43
    · refine v_iconst (pc := 21) (v := -1) K dX11_back_21 rfl ?_
      have hz := (Option.some.inj hF).symm
      subst hz
      exact v_iret (pc := 22) K hQ dX11_back_22
set_option maxRecDepth 100000 in
set_option maxHeartbeats 4000000 in
theorem kX11_back (l : Launch) {y : Ly} (hJ : ly_J y) (hy : y.2.2.2.2 = 0) {M M1 : QM} {r : Int32} {x1 : Int32} (hF : fX11_back M x1 = some (r, M1)) : Met l yX11_back wqX11_back rmX11_back (q_P y [.ref (ly_o y 0), .int x1] M) (q_E y (some (.int r)) M1) 0 0 (ly_A y) :=
  q_met (by decide) rfl hJ rfl rfl rfl (fun x K hQ => bX11_back_0 l K hy (z := (r, M1)) hQ  hF)
-- ===== X11_count (I)I
theorem jd_X11_count : yX11_count.cls = RX11 ∧ yX11_count.cls ≠ "java/lang/invoke/MethodHandle" ∧ yX11_count.cls ≠ "java/lang/invoke/VarHandle" ∧ (parseMethodDescriptor yX11_count.desc).map (fun d => d.parameters.length) = some 1 := by decide +kernel
abbrev wqX11_count : List Cond := .code yX11_count cX11_count 2 (some .int) :: wsL_law
abbrev rmX11_count : Room := { frames := 4, cells := 0, slots := 0, locals := 83 }
def fX11_count (M : QM) (x1 : Int32) : Option (Int32 × QM) := if x1 = (0 : Int32) then some (q_i M 20 6, M) else if x1 = (1 : Int32) then some (q_i M 0 10, M) else if x1 = (2 : Int32) then some (q_i M 20 7, M) else if x1 = (3 : Int32) then (q_b (fX1_goingOn M 20) fun r6 M7 => some (r6, M7)) else if x1 = (4 : Int32) then some (q_i M 1 1, M) else some ((-1 : Int32), M)
set_option maxRecDepth 100000 in
set_option maxHeartbeats 4000000 in
theorem bX11_count_0 {x : Cx} {y : Ly} (l : Launch) (K : VK x l rmX11_count y 2 cX11_count RX11 wqX11_count) (hy : y.2.2.2.2 = 0) {z : Int32 × QM} (hQ : VQ x y (some (.int z.1)) z.2 (some .int)) {M : QM} {x1 : Int32} (hF : fX11_count M x1 = some z) : V x y 2 M 0 [(0, .ref (ly_o y 0)), (1, .int x1)] [] := by
  unfold fX11_count at hF
  refine v_iload_n (pc := 0) K dX11_count_0 1 rfl ?_
  rcases q_iE hF with ⟨c1, hF⟩ | ⟨c1, hF⟩
  · refine v_tabE (pc := 1) (tgt := 36) (off := 35) K c1 dX11_count_1 (by decide) (by decide) (by decide +kernel) (by decide) ?_
    refine v_aload_n (pc := 36) K dX11_count_36 0 rfl ?_
    refine gX11_book (pc := 37) K hy (by decide) jn_X11 (List.mem_cons_of_mem _ jl_X11_37) dX11_count_37 ?_
    refine gX1_peopleCount (pc := 40) K hy (by decide) jn_X1 (List.mem_cons_of_mem _ jl_X11_294) dX11_count_40 ?_
    have hz := (Option.some.inj hF).symm
    subst hz
    exact v_iret (pc := 43) K hQ dX11_count_43
  rcases q_iE hF with ⟨c2, hF⟩ | ⟨c2, hF⟩
  · refine v_tabE (pc := 1) (tgt := 44) (off := 43) K c2 dX11_count_1 (by decide) (by decide) (by decide +kernel) (by decide) ?_
    refine v_aload_n (pc := 44) K dX11_count_44 0 rfl ?_
    refine gX11_codeCount (pc := 45) K hy (by decide) jn_X11 (List.mem_cons_of_mem _ jl_X11_100) dX11_count_45 ?_
    have hz := (Option.some.inj hF).symm
    subst hz
    exact v_iret (pc := 48) K hQ dX11_count_48
  rcases q_iE hF with ⟨c3, hF⟩ | ⟨c3, hF⟩
  · refine v_tabE (pc := 1) (tgt := 49) (off := 48) K c3 dX11_count_1 (by decide) (by decide) (by decide +kernel) (by decide) ?_
    refine v_aload_n (pc := 49) K dX11_count_49 0 rfl ?_
    refine gX11_book (pc := 50) K hy (by decide) jn_X11 (List.mem_cons_of_mem _ jl_X11_37) dX11_count_50 ?_
    refine gX1_quarrelCount (pc := 53) K hy (by decide) jn_X1 (List.mem_cons_of_mem _ jl_X11_291) dX11_count_53 ?_
    have hz := (Option.some.inj hF).symm
    subst hz
    exact v_iret (pc := 56) K hQ dX11_count_56
  rcases q_iE hF with ⟨c4, hF⟩ | ⟨c4, hF⟩
  · refine v_tabE (pc := 1) (tgt := 57) (off := 56) K c4 dX11_count_1 (by decide) (by decide) (by decide +kernel) (by decide) ?_
    refine v_aload_n (pc := 57) K dX11_count_57 0 rfl ?_
    refine gX11_book (pc := 58) K hy (by decide) jn_X11 (List.mem_cons_of_mem _ jl_X11_37) dX11_count_58 ?_
    obtain ⟨r6, M7, hc5, hF⟩ := q_bE hF
    refine v_callV (pc := 61) (ci := 1) (As := []) (rest := []) (st' := [.int r6]) (r := some (.int r6)) (M1 := M7) K (kX1_goingOn l K.2.2.2.2.2.2.1 hy (by decide) hc5) (jg_V jl_X11_297 jw_i_X1_goingOn jw_s_X1_goingOn jw_n_X1 jw_c_X1_goingOn) rfl rfl rfl jd_X1_goingOn ⟨Nat.le_of_ble_eq_true rfl, Nat.le_of_ble_eq_true rfl⟩ rfl rfl (Nat.le_of_ble_eq_true rfl) (by decide) (okc_0 hy (by decide)) rfl dX11_count_61 rfl ?_
    have hz := (Option.some.inj hF).symm
    subst hz
    exact v_iret (pc := 64) K hQ dX11_count_64
  rcases q_iE hF with ⟨c8, hF⟩ | ⟨c8, hF⟩
  · refine v_tabE (pc := 1) (tgt := 65) (off := 64) K c8 dX11_count_1 (by decide) (by decide) (by decide +kernel) (by decide) ?_
    refine v_aload_n (pc := 65) K dX11_count_65 0 rfl ?_
    refine gX11_tape (pc := 66) K hy (by decide) jn_X11 (List.mem_cons_of_mem _ jl_X11_12) dX11_count_66 ?_
    refine gX8_length (pc := 69) K hy (by decide) jn_X8 (List.mem_cons_of_mem _ jl_X11_92) dX11_count_69 ?_
    have hz := (Option.some.inj hF).symm
    subst hz
    exact v_iret (pc := 72) K hQ dX11_count_72
  refine v_tabN (pc := 1) (tgt := 73) K dX11_count_1 (q_tn_0_4 c1 c2 c3 c4 c8) (by decide) ?_
  refine v_iconst (pc := 73) (v := -1) K dX11_count_73 rfl ?_
  have hz := (Option.some.inj hF).symm
  subst hz
  exact v_iret (pc := 74) K hQ dX11_count_74
set_option maxRecDepth 100000 in
set_option maxHeartbeats 4000000 in
theorem kX11_count (l : Launch) {y : Ly} (hJ : ly_J y) (hy : y.2.2.2.2 = 0) {M M1 : QM} {r : Int32} {x1 : Int32} (hF : fX11_count M x1 = some (r, M1)) : Met l yX11_count wqX11_count rmX11_count (q_P y [.ref (ly_o y 0), .int x1] M) (q_E y (some (.int r)) M1) 0 0 (ly_A y) :=
  q_met (by decide) rfl hJ rfl rfl rfl (fun x K hQ => bX11_count_0 l K hy (z := (r, M1)) hQ  hF)
