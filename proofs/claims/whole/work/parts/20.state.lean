-- ===== X7_of (IIIII)I
theorem jd_X7_of : yX7_of.cls ≠ "java/lang/invoke/MethodHandle" ∧ yX7_of.cls ≠ "java/lang/invoke/VarHandle" ∧ (parseMethodDescriptor yX7_of.desc).map (fun d => d.parameters.length) = some 5 := by decide +kernel
abbrev wqX7_of : List Cond := .code yX7_of cX7_of 5 (some .int) :: wsL_law
abbrev rmX7_of : Room := { frames := 0, cells := 0, slots := 0, locals := 0 }
def fX7_of (M : QM) (x0 : Int32) (x1 : Int32) (x2 : Int32) (x3 : Int32) (x4 : Int32) : Option (Int32 × QM) := (q_t ((x0 ||| (x1 <<< ((4 : Int32) &&& (31 : Int32)))) ||| (x2 <<< ((8 : Int32) &&& (31 : Int32)))) fun v1 => (q_t ((v1 ||| (x3 <<< ((12 : Int32) &&& (31 : Int32)))) ||| (x4 <<< ((13 : Int32) &&& (31 : Int32)))) fun v2 => some (v2, M)))
set_option maxRecDepth 100000 in
set_option maxHeartbeats 4000000 in
theorem bX7_of_0 {x : Cx} {y : Ly} (l : Launch) (K : VK x l rmX7_of y 5 cX7_of RX7 wqX7_of) (hy : y.2.2.2.2 = 0) {z : Int32 × QM} (hQ : VQ x y (some (.int z.1)) z.2 (some .int)) {M : QM} {x0 : Int32} {x1 : Int32} {x2 : Int32} {x3 : Int32} {x4 : Int32} (hF : fX7_of M x0 x1 x2 x3 x4 = some z) : V x y 5 M 0 [(0, .int x0), (1, .int x1), (2, .int x2), (3, .int x3), (4, .int x4)] [] := by
  unfold fX7_of at hF
  refine v_iload_n (pc := 0) K dX7_of_0 0 rfl ?_
  refine v_iload_n (pc := 1) K dX7_of_1 1 rfl ?_
  refine v_iconst (pc := 2) (v := 4) K dX7_of_2 rfl ?_
  refine v_ishl (pc := 3) K dX7_of_3 ?_
  refine v_ior (pc := 4) K dX7_of_4 ?_
  refine v_iload_n (pc := 5) K dX7_of_5 2 rfl ?_
  refine v_bipush (pc := 6) (v := 8) K dX7_of_6 rfl ?_
  refine v_ishl (pc := 8) K dX7_of_8 ?_
  refine v_ior (pc := 9) K dX7_of_9 ?_
  refine v_nmI hF (fun v1 hF => ?_)
  refine v_iload_n (pc := 10) K dX7_of_10 3 rfl ?_
  refine v_bipush (pc := 11) (v := 12) K dX7_of_11 rfl ?_
  refine v_ishl (pc := 13) K dX7_of_13 ?_
  refine v_ior (pc := 14) K dX7_of_14 ?_
  refine v_iload (pc := 15) K dX7_of_15 4 rfl ?_
  refine v_bipush (pc := 17) (v := 13) K dX7_of_17 rfl ?_
  refine v_ishl (pc := 19) K dX7_of_19 ?_
  refine v_ior (pc := 20) K dX7_of_20 ?_
  refine v_nmI hF (fun v2 hF => ?_)
  have hz := (Option.some.inj hF).symm
  subst hz
  exact v_iret (pc := 21) K hQ dX7_of_21
set_option maxRecDepth 100000 in
set_option maxHeartbeats 4000000 in
theorem kX7_of (l : Launch) {y : Ly} (hJ : ly_J y) (hy : y.2.2.2.2 = 0) {M M1 : QM} {r : Int32} {x0 : Int32} {x1 : Int32} {x2 : Int32} {x3 : Int32} {x4 : Int32} (hF : fX7_of M x0 x1 x2 x3 x4 = some (r, M1)) : Met l yX7_of wqX7_of rmX7_of (q_P y [.int x0, .int x1, .int x2, .int x3, .int x4] M) (q_E y (some (.int r)) M1) 0 0 (ly_A y) :=
  q_met (by decide) rfl hJ rfl rfl rfl (fun x K hQ => bX7_of_0 l K hy (z := (r, M1)) hQ  hF)
-- ===== X7_ended (III)I
theorem jd_X7_ended : yX7_ended.cls ≠ "java/lang/invoke/MethodHandle" ∧ yX7_ended.cls ≠ "java/lang/invoke/VarHandle" ∧ (parseMethodDescriptor yX7_ended.desc).map (fun d => d.parameters.length) = some 3 := by decide +kernel
abbrev wqX7_ended : List Cond := .code yX7_ended cX7_ended 3 (some .int) :: wsL_law
abbrev rmX7_ended : Room := { frames := 0, cells := 0, slots := 0, locals := 0 }
def fX7_ended (M : QM) (x0 : Int32) (x1 : Int32) (x2 : Int32) : Option (Int32 × QM) := (q_t ((x0 ||| (x1 <<< ((15 : Int32) &&& (31 : Int32)))) ||| (x2 <<< ((18 : Int32) &&& (31 : Int32)))) fun v1 => some (v1, M))
set_option maxRecDepth 100000 in
set_option maxHeartbeats 4000000 in
theorem bX7_ended_0 {x : Cx} {y : Ly} (l : Launch) (K : VK x l rmX7_ended y 3 cX7_ended RX7 wqX7_ended) (hy : y.2.2.2.2 = 0) {z : Int32 × QM} (hQ : VQ x y (some (.int z.1)) z.2 (some .int)) {M : QM} {x0 : Int32} {x1 : Int32} {x2 : Int32} (hF : fX7_ended M x0 x1 x2 = some z) : V x y 3 M 0 [(0, .int x0), (1, .int x1), (2, .int x2)] [] := by
  unfold fX7_ended at hF
  refine v_iload_n (pc := 0) K dX7_ended_0 0 rfl ?_
  refine v_iload_n (pc := 1) K dX7_ended_1 1 rfl ?_
  refine v_bipush (pc := 2) (v := 15) K dX7_ended_2 rfl ?_
  refine v_ishl (pc := 4) K dX7_ended_4 ?_
  refine v_ior (pc := 5) K dX7_ended_5 ?_
  refine v_iload_n (pc := 6) K dX7_ended_6 2 rfl ?_
  refine v_bipush (pc := 7) (v := 18) K dX7_ended_7 rfl ?_
  refine v_ishl (pc := 9) K dX7_ended_9 ?_
  refine v_ior (pc := 10) K dX7_ended_10 ?_
  refine v_nmI hF (fun v1 hF => ?_)
  have hz := (Option.some.inj hF).symm
  subst hz
  exact v_iret (pc := 11) K hQ dX7_ended_11
set_option maxRecDepth 100000 in
set_option maxHeartbeats 4000000 in
theorem kX7_ended (l : Launch) {y : Ly} (hJ : ly_J y) (hy : y.2.2.2.2 = 0) {M M1 : QM} {r : Int32} {x0 : Int32} {x1 : Int32} {x2 : Int32} (hF : fX7_ended M x0 x1 x2 = some (r, M1)) : Met l yX7_ended wqX7_ended rmX7_ended (q_P y [.int x0, .int x1, .int x2] M) (q_E y (some (.int r)) M1) 0 0 (ly_A y) :=
  q_met (by decide) rfl hJ rfl rfl rfl (fun x K hQ => bX7_ended_0 l K hy (z := (r, M1)) hQ  hF)
-- ===== X7_owed (II)I
theorem jd_X7_owed : yX7_owed.cls ≠ "java/lang/invoke/MethodHandle" ∧ yX7_owed.cls ≠ "java/lang/invoke/VarHandle" ∧ (parseMethodDescriptor yX7_owed.desc).map (fun d => d.parameters.length) = some 2 := by decide +kernel
abbrev wqX7_owed : List Cond := .code yX7_owed cX7_owed 2 (some .int) :: wsL_law
abbrev rmX7_owed : Room := { frames := 0, cells := 0, slots := 0, locals := 0 }
def fX7_owed_b11 (M : QM) (s0 : Int32) : Option (Int32 × QM) := some (s0 &&& (15 : Int32), M)
set_option maxRecDepth 100000 in
set_option maxHeartbeats 4000000 in
theorem bX7_owed_11 {x : Cx} {y : Ly} (l : Launch) (K : VK x l rmX7_owed y 2 cX7_owed RX7 wqX7_owed) (hy : y.2.2.2.2 = 0) {z : Int32 × QM} (hQ : VQ x y (some (.int z.1)) z.2 (some .int)) {M : QM} {s0 : Int32} (hF : fX7_owed_b11 M s0 = some z) : V x y 2 M 11 [] [.int s0] := by
  unfold fX7_owed_b11 at hF
  refine v_bipush (pc := 11) (v := 15) K dX7_owed_11 rfl ?_
  refine v_iand (pc := 13) K dX7_owed_13 ?_
  have hz := (Option.some.inj hF).symm
  subst hz
  exact v_iret (pc := 14) K hQ dX7_owed_14
def fX7_owed (M : QM) (x0 : Int32) (x1 : Int32) : Option (Int32 × QM) := if x1 ≠ (0 : Int32) then (fX7_owed_b11 M (x0 >>> ((4 : Int32) &&& (31 : Int32)))) else (fX7_owed_b11 M x0)
set_option maxRecDepth 100000 in
set_option maxHeartbeats 4000000 in
theorem bX7_owed_0 {x : Cx} {y : Ly} (l : Launch) (K : VK x l rmX7_owed y 2 cX7_owed RX7 wqX7_owed) (hy : y.2.2.2.2 = 0) {z : Int32 × QM} (hQ : VQ x y (some (.int z.1)) z.2 (some .int)) {M : QM} {x0 : Int32} {x1 : Int32} (hF : fX7_owed M x0 x1 = some z) : V x y 2 M 0 [(0, .int x0), (1, .int x1)] [] := by
  unfold fX7_owed at hF
  refine v_iload_n (pc := 0) K dX7_owed_0 1 rfl ?_
  refine v_if_ne (pc := 1) (tgt := 8) K dX7_owed_1 (by decide) hF (fun c1 hF => ?_) (fun c1 hF => ?_)
  · refine v_iload_n (pc := 8) K dX7_owed_8 0 rfl ?_
    refine v_iconst (pc := 9) (v := 4) K dX7_owed_9 rfl ?_
    refine v_ishr (pc := 10) K dX7_owed_10 ?_
    refine v_sub [] rfl ?_
    exact bX7_owed_11 l K hy hQ hF
  · refine v_iload_n (pc := 4) K dX7_owed_4 0 rfl ?_
    refine v_goto (pc := 5) (tgt := 11) K dX7_owed_5 (by decide) ?_
    refine v_sub [] rfl ?_
    exact bX7_owed_11 l K hy hQ hF
set_option maxRecDepth 100000 in
set_option maxHeartbeats 4000000 in
theorem kX7_owed (l : Launch) {y : Ly} (hJ : ly_J y) (hy : y.2.2.2.2 = 0) {M M1 : QM} {r : Int32} {x0 : Int32} {x1 : Int32} (hF : fX7_owed M x0 x1 = some (r, M1)) : Met l yX7_owed wqX7_owed rmX7_owed (q_P y [.int x0, .int x1] M) (q_E y (some (.int r)) M1) 0 0 (ly_A y) :=
  q_met (by decide) rfl hJ rfl rfl rfl (fun x K hQ => bX7_owed_0 l K hy (z := (r, M1)) hQ  hF)
-- ===== X7_left (I)I
theorem jd_X7_left : yX7_left.cls ≠ "java/lang/invoke/MethodHandle" ∧ yX7_left.cls ≠ "java/lang/invoke/VarHandle" ∧ (parseMethodDescriptor yX7_left.desc).map (fun d => d.parameters.length) = some 1 := by decide +kernel
abbrev wqX7_left : List Cond := .code yX7_left cX7_left 1 (some .int) :: wsL_law
abbrev rmX7_left : Room := { frames := 0, cells := 0, slots := 0, locals := 0 }
def fX7_left (M : QM) (x0 : Int32) : Option (Int32 × QM) := some ((x0 >>> ((8 : Int32) &&& (31 : Int32))) &&& (15 : Int32), M)
set_option maxRecDepth 100000 in
set_option maxHeartbeats 4000000 in
theorem bX7_left_0 {x : Cx} {y : Ly} (l : Launch) (K : VK x l rmX7_left y 1 cX7_left RX7 wqX7_left) (hy : y.2.2.2.2 = 0) {z : Int32 × QM} (hQ : VQ x y (some (.int z.1)) z.2 (some .int)) {M : QM} {x0 : Int32} (hF : fX7_left M x0 = some z) : V x y 1 M 0 [(0, .int x0)] [] := by
  unfold fX7_left at hF
  refine v_iload_n (pc := 0) K dX7_left_0 0 rfl ?_
  refine v_bipush (pc := 1) (v := 8) K dX7_left_1 rfl ?_
  refine v_ishr (pc := 3) K dX7_left_3 ?_
  refine v_bipush (pc := 4) (v := 15) K dX7_left_4 rfl ?_
  refine v_iand (pc := 6) K dX7_left_6 ?_
  have hz := (Option.some.inj hF).symm
  subst hz
  exact v_iret (pc := 7) K hQ dX7_left_7
set_option maxRecDepth 100000 in
set_option maxHeartbeats 4000000 in
theorem kX7_left (l : Launch) {y : Ly} (hJ : ly_J y) (hy : y.2.2.2.2 = 0) {M M1 : QM} {r : Int32} {x0 : Int32} (hF : fX7_left M x0 = some (r, M1)) : Met l yX7_left wqX7_left rmX7_left (q_P y [.int x0] M) (q_E y (some (.int r)) M1) 0 0 (ly_A y) :=
  q_met (by decide) rfl hJ rfl rfl rfl (fun x K hQ => bX7_left_0 l K hy (z := (r, M1)) hQ  hF)
-- ===== X7_turn (I)I
theorem jd_X7_turn : yX7_turn.cls ≠ "java/lang/invoke/MethodHandle" ∧ yX7_turn.cls ≠ "java/lang/invoke/VarHandle" ∧ (parseMethodDescriptor yX7_turn.desc).map (fun d => d.parameters.length) = some 1 := by decide +kernel
abbrev wqX7_turn : List Cond := .code yX7_turn cX7_turn 1 (some .int) :: wsL_law
abbrev rmX7_turn : Room := { frames := 0, cells := 0, slots := 0, locals := 0 }
def fX7_turn (M : QM) (x0 : Int32) : Option (Int32 × QM) := some ((x0 >>> ((12 : Int32) &&& (31 : Int32))) &&& (1 : Int32), M)
set_option maxRecDepth 100000 in
set_option maxHeartbeats 4000000 in
theorem bX7_turn_0 {x : Cx} {y : Ly} (l : Launch) (K : VK x l rmX7_turn y 1 cX7_turn RX7 wqX7_turn) (hy : y.2.2.2.2 = 0) {z : Int32 × QM} (hQ : VQ x y (some (.int z.1)) z.2 (some .int)) {M : QM} {x0 : Int32} (hF : fX7_turn M x0 = some z) : V x y 1 M 0 [(0, .int x0)] [] := by
  unfold fX7_turn at hF
  refine v_iload_n (pc := 0) K dX7_turn_0 0 rfl ?_
  refine v_bipush (pc := 1) (v := 12) K dX7_turn_1 rfl ?_
  refine v_ishr (pc := 3) K dX7_turn_3 ?_
  refine v_iconst (pc := 4) (v := 1) K dX7_turn_4 rfl ?_
  refine v_iand (pc := 5) K dX7_turn_5 ?_
  have hz := (Option.some.inj hF).symm
  subst hz
  exact v_iret (pc := 6) K hQ dX7_turn_6
set_option maxRecDepth 100000 in
set_option maxHeartbeats 4000000 in
theorem kX7_turn (l : Launch) {y : Ly} (hJ : ly_J y) (hy : y.2.2.2.2 = 0) {M M1 : QM} {r : Int32} {x0 : Int32} (hF : fX7_turn M x0 = some (r, M1)) : Met l yX7_turn wqX7_turn rmX7_turn (q_P y [.int x0] M) (q_E y (some (.int r)) M1) 0 0 (ly_A y) :=
  q_met (by decide) rfl hJ rfl rfl rfl (fun x K hQ => bX7_turn_0 l K hy (z := (r, M1)) hQ  hF)
-- ===== X7_asked (I)I
theorem jd_X7_asked : yX7_asked.cls ≠ "java/lang/invoke/MethodHandle" ∧ yX7_asked.cls ≠ "java/lang/invoke/VarHandle" ∧ (parseMethodDescriptor yX7_asked.desc).map (fun d => d.parameters.length) = some 1 := by decide +kernel
abbrev wqX7_asked : List Cond := .code yX7_asked cX7_asked 1 (some .int) :: wsL_law
abbrev rmX7_asked : Room := { frames := 0, cells := 0, slots := 0, locals := 0 }
def fX7_asked (M : QM) (x0 : Int32) : Option (Int32 × QM) := some ((x0 >>> ((13 : Int32) &&& (31 : Int32))) &&& (3 : Int32), M)
set_option maxRecDepth 100000 in
set_option maxHeartbeats 4000000 in
theorem bX7_asked_0 {x : Cx} {y : Ly} (l : Launch) (K : VK x l rmX7_asked y 1 cX7_asked RX7 wqX7_asked) (hy : y.2.2.2.2 = 0) {z : Int32 × QM} (hQ : VQ x y (some (.int z.1)) z.2 (some .int)) {M : QM} {x0 : Int32} (hF : fX7_asked M x0 = some z) : V x y 1 M 0 [(0, .int x0)] [] := by
  unfold fX7_asked at hF
  refine v_iload_n (pc := 0) K dX7_asked_0 0 rfl ?_
  refine v_bipush (pc := 1) (v := 13) K dX7_asked_1 rfl ?_
  refine v_ishr (pc := 3) K dX7_asked_3 ?_
  refine v_iconst (pc := 4) (v := 3) K dX7_asked_4 rfl ?_
  refine v_iand (pc := 5) K dX7_asked_5 ?_
  have hz := (Option.some.inj hF).symm
  subst hz
  exact v_iret (pc := 6) K hQ dX7_asked_6
set_option maxRecDepth 100000 in
set_option maxHeartbeats 4000000 in
theorem kX7_asked (l : Launch) {y : Ly} (hJ : ly_J y) (hy : y.2.2.2.2 = 0) {M M1 : QM} {r : Int32} {x0 : Int32} (hF : fX7_asked M x0 = some (r, M1)) : Met l yX7_asked wqX7_asked rmX7_asked (q_P y [.int x0] M) (q_E y (some (.int r)) M1) 0 0 (ly_A y) :=
  q_met (by decide) rfl hJ rfl rfl rfl (fun x K hQ => bX7_asked_0 l K hy (z := (r, M1)) hQ  hF)
-- ===== X7_ending (I)I
theorem jd_X7_ending : yX7_ending.cls ≠ "java/lang/invoke/MethodHandle" ∧ yX7_ending.cls ≠ "java/lang/invoke/VarHandle" ∧ (parseMethodDescriptor yX7_ending.desc).map (fun d => d.parameters.length) = some 1 := by decide +kernel
abbrev wqX7_ending : List Cond := .code yX7_ending cX7_ending 1 (some .int) :: wsL_law
abbrev rmX7_ending : Room := { frames := 0, cells := 0, slots := 0, locals := 0 }
def fX7_ending (M : QM) (x0 : Int32) : Option (Int32 × QM) := some ((x0 >>> ((15 : Int32) &&& (31 : Int32))) &&& (7 : Int32), M)
set_option maxRecDepth 100000 in
set_option maxHeartbeats 4000000 in
theorem bX7_ending_0 {x : Cx} {y : Ly} (l : Launch) (K : VK x l rmX7_ending y 1 cX7_ending RX7 wqX7_ending) (hy : y.2.2.2.2 = 0) {z : Int32 × QM} (hQ : VQ x y (some (.int z.1)) z.2 (some .int)) {M : QM} {x0 : Int32} (hF : fX7_ending M x0 = some z) : V x y 1 M 0 [(0, .int x0)] [] := by
  unfold fX7_ending at hF
  refine v_iload_n (pc := 0) K dX7_ending_0 0 rfl ?_
  refine v_bipush (pc := 1) (v := 15) K dX7_ending_1 rfl ?_
  refine v_ishr (pc := 3) K dX7_ending_3 ?_
  refine v_bipush (pc := 4) (v := 7) K dX7_ending_4 rfl ?_
  refine v_iand (pc := 6) K dX7_ending_6 ?_
  have hz := (Option.some.inj hF).symm
  subst hz
  exact v_iret (pc := 7) K hQ dX7_ending_7
set_option maxRecDepth 100000 in
set_option maxHeartbeats 4000000 in
theorem kX7_ending (l : Launch) {y : Ly} (hJ : ly_J y) (hy : y.2.2.2.2 = 0) {M M1 : QM} {r : Int32} {x0 : Int32} (hF : fX7_ending M x0 = some (r, M1)) : Met l yX7_ending wqX7_ending rmX7_ending (q_P y [.int x0] M) (q_E y (some (.int r)) M1) 0 0 (ly_A y) :=
  q_met (by decide) rfl hJ rfl rfl rfl (fun x K hQ => bX7_ending_0 l K hy (z := (r, M1)) hQ  hF)
-- ===== X7_less (I)I
theorem jd_X7_less : yX7_less.cls ≠ "java/lang/invoke/MethodHandle" ∧ yX7_less.cls ≠ "java/lang/invoke/VarHandle" ∧ (parseMethodDescriptor yX7_less.desc).map (fun d => d.parameters.length) = some 1 := by decide +kernel
abbrev wqX7_less : List Cond := .code yX7_less cX7_less 1 (some .int) :: wsL_law
abbrev rmX7_less : Room := { frames := 0, cells := 0, slots := 0, locals := 0 }
def fX7_less (M : QM) (x0 : Int32) : Option (Int32 × QM) := some ((x0 >>> ((18 : Int32) &&& (31 : Int32))) &&& (3 : Int32), M)
set_option maxRecDepth 100000 in
set_option maxHeartbeats 4000000 in
theorem bX7_less_0 {x : Cx} {y : Ly} (l : Launch) (K : VK x l rmX7_less y 1 cX7_less RX7 wqX7_less) (hy : y.2.2.2.2 = 0) {z : Int32 × QM} (hQ : VQ x y (some (.int z.1)) z.2 (some .int)) {M : QM} {x0 : Int32} (hF : fX7_less M x0 = some z) : V x y 1 M 0 [(0, .int x0)] [] := by
  unfold fX7_less at hF
  refine v_iload_n (pc := 0) K dX7_less_0 0 rfl ?_
  refine v_bipush (pc := 1) (v := 18) K dX7_less_1 rfl ?_
  refine v_ishr (pc := 3) K dX7_less_3 ?_
  refine v_iconst (pc := 4) (v := 3) K dX7_less_4 rfl ?_
  refine v_iand (pc := 5) K dX7_less_5 ?_
  have hz := (Option.some.inj hF).symm
  subst hz
  exact v_iret (pc := 6) K hQ dX7_less_6
set_option maxRecDepth 100000 in
set_option maxHeartbeats 4000000 in
theorem kX7_less (l : Launch) {y : Ly} (hJ : ly_J y) (hy : y.2.2.2.2 = 0) {M M1 : QM} {r : Int32} {x0 : Int32} (hF : fX7_less M x0 = some (r, M1)) : Met l yX7_less wqX7_less rmX7_less (q_P y [.int x0] M) (q_E y (some (.int r)) M1) 0 0 (ly_A y) :=
  q_met (by decide) rfl hJ rfl rfl rfl (fun x K hQ => bX7_less_0 l K hy (z := (r, M1)) hQ  hF)
-- ===== X7_outcome (I)I
theorem jd_X7_outcome : yX7_outcome.cls ≠ "java/lang/invoke/MethodHandle" ∧ yX7_outcome.cls ≠ "java/lang/invoke/VarHandle" ∧ (parseMethodDescriptor yX7_outcome.desc).map (fun d => d.parameters.length) = some 1 := by decide +kernel
abbrev wqX7_outcome : List Cond := .code yX7_outcome cX7_outcome 1 (some .int) :: wsL_law
abbrev rmX7_outcome : Room := { frames := 1, cells := 0, slots := 0, locals := 20 }
def fX7_outcome (M : QM) (x0 : Int32) : Option (Int32 × QM) := (q_b (fX7_ending M x0) fun r2 M3 => (q_b (fX7_less M3 x0) fun r5 M6 => some (((4 : Int32) * r2) + r5, M6)))
set_option maxRecDepth 100000 in
set_option maxHeartbeats 4000000 in
theorem bX7_outcome_0 {x : Cx} {y : Ly} (l : Launch) (K : VK x l rmX7_outcome y 1 cX7_outcome RX7 wqX7_outcome) (hy : y.2.2.2.2 = 0) {z : Int32 × QM} (hQ : VQ x y (some (.int z.1)) z.2 (some .int)) {M : QM} {x0 : Int32} (hF : fX7_outcome M x0 = some z) : V x y 1 M 0 [(0, .int x0)] [] := by
  unfold fX7_outcome at hF
  refine v_iconst (pc := 0) (v := 4) K dX7_outcome_0 rfl ?_
  refine v_iload_n (pc := 1) K dX7_outcome_1 0 rfl ?_
  obtain ⟨r2, M3, hc1, hF⟩ := q_bE hF
  refine v_callS (pc := 2) (As := [.int x0]) (rest := [.int (4 : Int32)]) (st' := [.int r2, .int (4 : Int32)]) (r := some (.int r2)) (M1 := M3) K (kX7_ending l K.2.2.2.2.2.2.1 hy hc1) (jg_S jl_X7_7 jw_t_X7_ending jw_n_X7 jw_c_X7_ending) rfl rfl rfl jd_X7_ending ⟨Nat.le_of_ble_eq_true rfl, Nat.le_of_ble_eq_true rfl⟩ rfl rfl (Nat.le_of_ble_eq_true rfl) dX7_outcome_2 rfl ?_
  refine v_imul (pc := 5) K dX7_outcome_5 ?_
  refine v_iload_n (pc := 6) K dX7_outcome_6 0 rfl ?_
  obtain ⟨r5, M6, hc4, hF⟩ := q_bE hF
  refine v_callS (pc := 7) (As := [.int x0]) (rest := [.int ((4 : Int32) * r2)]) (st' := [.int r5, .int ((4 : Int32) * r2)]) (r := some (.int r5)) (M1 := M6) K (kX7_less l K.2.2.2.2.2.2.1 hy hc4) (jg_S jl_X7_13 jw_t_X7_less jw_n_X7 jw_c_X7_less) rfl rfl rfl jd_X7_less ⟨Nat.le_of_ble_eq_true rfl, Nat.le_of_ble_eq_true rfl⟩ rfl rfl (Nat.le_of_ble_eq_true rfl) dX7_outcome_7 rfl ?_
  refine v_iadd (pc := 10) K dX7_outcome_10 ?_
  have hz := (Option.some.inj hF).symm
  subst hz
  exact v_iret (pc := 11) K hQ dX7_outcome_11
set_option maxRecDepth 100000 in
set_option maxHeartbeats 4000000 in
theorem kX7_outcome (l : Launch) {y : Ly} (hJ : ly_J y) (hy : y.2.2.2.2 = 0) {M M1 : QM} {r : Int32} {x0 : Int32} (hF : fX7_outcome M x0 = some (r, M1)) : Met l yX7_outcome wqX7_outcome rmX7_outcome (q_P y [.int x0] M) (q_E y (some (.int r)) M1) 0 0 (ly_A y) :=
  q_met (by decide) rfl hJ rfl rfl rfl (fun x K hQ => bX7_outcome_0 l K hy (z := (r, M1)) hQ  hF)
-- ===== X7_spot (I)I
theorem jd_X7_spot : yX7_spot.cls ≠ "java/lang/invoke/MethodHandle" ∧ yX7_spot.cls ≠ "java/lang/invoke/VarHandle" ∧ (parseMethodDescriptor yX7_spot.desc).map (fun d => d.parameters.length) = some 1 := by decide +kernel
abbrev wqX7_spot : List Cond := .code yX7_spot cX7_spot 1 (some .int) :: wsL_law
abbrev rmX7_spot : Room := { frames := 1, cells := 0, slots := 0, locals := 20 }
def fX7_spot_b26 (M : QM) (x0 : Int32) (s0 : Int32) (s1 : Int32) : Option (Int32 × QM) := some ((s1 ||| s0) ||| (x0 &&& (255 : Int32)), M)
set_option maxRecDepth 100000 in
set_option maxHeartbeats 4000000 in
theorem bX7_spot_26 {x : Cx} {y : Ly} (l : Launch) (K : VK x l rmX7_spot y 1 cX7_spot RX7 wqX7_spot) (hy : y.2.2.2.2 = 0) {z : Int32 × QM} (hQ : VQ x y (some (.int z.1)) z.2 (some .int)) {M : QM} {x0 : Int32} {s0 : Int32} {s1 : Int32} (hF : fX7_spot_b26 M x0 s0 s1 = some z) : V x y 1 M 26 [(0, .int x0)] [.int s0, .int s1] := by
  unfold fX7_spot_b26 at hF
  refine v_ior (pc := 26) K dX7_spot_26 ?_
  refine v_iload_n (pc := 27) K dX7_spot_27 0 rfl ?_
  refine v_sipush (pc := 28) (v := 255) K dX7_spot_28 rfl ?_
  refine v_iand (pc := 31) K dX7_spot_31 ?_
  refine v_ior (pc := 32) K dX7_spot_32 ?_
  have hz := (Option.some.inj hF).symm
  subst hz
  exact v_iret (pc := 33) K hQ dX7_spot_33
def fX7_spot (M : QM) (x0 : Int32) : Option (Int32 × QM) := (q_b (fX7_left M x0) fun r2 M3 => (q_t (((r2 - (1 : Int32)) &&& (7 : Int32)) <<< ((9 : Int32) &&& (31 : Int32))) fun v4 => (q_b (fX7_asked M3 x0) fun r6 M7 => if r6 ≠ (0 : Int32) then (fX7_spot_b26 M7 x0 (256 : Int32) v4) else (fX7_spot_b26 M7 x0 (0 : Int32) v4))))
set_option maxRecDepth 100000 in
set_option maxHeartbeats 4000000 in
theorem bX7_spot_0 {x : Cx} {y : Ly} (l : Launch) (K : VK x l rmX7_spot y 1 cX7_spot RX7 wqX7_spot) (hy : y.2.2.2.2 = 0) {z : Int32 × QM} (hQ : VQ x y (some (.int z.1)) z.2 (some .int)) {M : QM} {x0 : Int32} (hF : fX7_spot M x0 = some z) : V x y 1 M 0 [(0, .int x0)] [] := by
  unfold fX7_spot at hF
  refine v_iload_n (pc := 0) K dX7_spot_0 0 rfl ?_
  obtain ⟨r2, M3, hc1, hF⟩ := q_bE hF
  refine v_callS (pc := 1) (As := [.int x0]) (rest := []) (st' := [.int r2]) (r := some (.int r2)) (M1 := M3) K (kX7_left l K.2.2.2.2.2.2.1 hy hc1) (jg_S jl_X7_16 jw_t_X7_left jw_n_X7 jw_c_X7_left) rfl rfl rfl jd_X7_left ⟨Nat.le_of_ble_eq_true rfl, Nat.le_of_ble_eq_true rfl⟩ rfl rfl (Nat.le_of_ble_eq_true rfl) dX7_spot_1 rfl ?_
  refine v_iconst (pc := 4) (v := 1) K dX7_spot_4 rfl ?_
  refine v_isub (pc := 5) K dX7_spot_5 ?_
  refine v_bipush (pc := 6) (v := 7) K dX7_spot_6 rfl ?_
  refine v_iand (pc := 8) K dX7_spot_8 ?_
  refine v_bipush (pc := 9) (v := 9) K dX7_spot_9 rfl ?_
  refine v_ishl (pc := 11) K dX7_spot_11 ?_
  refine v_nmI hF (fun v4 hF => ?_)
  refine v_iload_n (pc := 12) K dX7_spot_12 0 rfl ?_
  obtain ⟨r6, M7, hc5, hF⟩ := q_bE hF
  refine v_callS (pc := 13) (As := [.int x0]) (rest := [.int v4]) (st' := [.int r6, .int v4]) (r := some (.int r6)) (M1 := M7) K (kX7_asked l K.2.2.2.2.2.2.1 hy hc5) (jg_S jl_X7_19 jw_t_X7_asked jw_n_X7 jw_c_X7_asked) rfl rfl rfl jd_X7_asked ⟨Nat.le_of_ble_eq_true rfl, Nat.le_of_ble_eq_true rfl⟩ rfl rfl (Nat.le_of_ble_eq_true rfl) dX7_spot_13 rfl ?_
  refine v_if_ne (pc := 16) (tgt := 23) K dX7_spot_16 (by decide) hF (fun c8 hF => ?_) (fun c8 hF => ?_)
  · refine v_sipush (pc := 23) (v := 256) K dX7_spot_23 rfl ?_
    exact bX7_spot_26 l K hy hQ hF
  · refine v_iconst (pc := 19) (v := 0) K dX7_spot_19 rfl ?_
    refine v_goto (pc := 20) (tgt := 26) K dX7_spot_20 (by decide) ?_
    exact bX7_spot_26 l K hy hQ hF
set_option maxRecDepth 100000 in
set_option maxHeartbeats 4000000 in
theorem kX7_spot (l : Launch) {y : Ly} (hJ : ly_J y) (hy : y.2.2.2.2 = 0) {M M1 : QM} {r : Int32} {x0 : Int32} (hF : fX7_spot M x0 = some (r, M1)) : Met l yX7_spot wqX7_spot rmX7_spot (q_P y [.int x0] M) (q_E y (some (.int r)) M1) 0 0 (ly_A y) :=
  q_met (by decide) rfl hJ rfl rfl rfl (fun x K hQ => bX7_spot_0 l K hy (z := (r, M1)) hQ  hF)
