-- ===== the making of TwoCards$Sight
theorem jd_X6_init : yX6_init.cls ≠ "java/lang/invoke/MethodHandle" ∧ yX6_init.cls ≠ "java/lang/invoke/VarHandle" ∧ (parseMethodDescriptor yX6_init.desc).map (fun d => d.parameters.length) = some 0 := by decide +kernel
abbrev rmX6_init : Room := { frames := 1, cells := 1, slots := 10, locals := 20 }
abbrev wqX6_init : List Cond := .code yX6_init cX6_init 1 none :: wsL_law
def gX6_init (n : Nat) (f : FH) (a : Nat) : FH := h_t (h_u f (n) (1, 0, [(0, 10)])) fun f1 => h_t (h_p f1 a 0 (1, n)) fun f4 => f4
set_option maxRecDepth 100000 in
set_option maxHeartbeats 8000000 in
theorem wX6_init {n a : Nat} {f f1 : FH} (hO : isO f n a 6) (hF : gX6_init n f a = f1) : h_K f n a f1 := by
  unfold gX6_init at hF
  obtain ⟨f1, h2, hF⟩ := h_tE hF
  have Oq3 : isO f1 (n + 1) a 6 := by rw [h2]; exact hO.new
  have Kq3 : h_K f n a f1 := by rw [h2]; exact (h_K.rf (f := f) (n := n) (a := a)).new (by omega) hO.1
  obtain ⟨f4, h5, hF⟩ := h_tE hF
  have Oq6 : isO f4 (n + 1) a 6 := by rw [h5]; exact Oq3.put
  have Kq6 : h_K f n a f4 := by rw [h5]; exact Kq3.put
  subst hF
  exact Kq6
set_option maxRecDepth 100000 in
set_option maxHeartbeats 8000000 in
theorem kX6_init (l : Launch) {y : Ly} {B n a : Nat} {f f1 : FH} (hO : isO f n a 6) (hF : gX6_init n f a = f1) : Met l yX6_init wqX6_init rmX6_init (h_P y B [.ref (B + a)] n f) (h_E y B (n + 1) f1) 1 10 (h_A B) := by
  refine c_met (by decide) rfl rfl rfl (fun x K hQ => ?_)
  unfold gX6_init at hF
  refine c_aload_n (pc := 0) (n := n) (cells := 0) (slots := 0) K dX6_init_0 0 rfl ?_
  refine c_objInit (pc := 1) (n := n) (cells := 0) (slots := 0) K (List.mem_cons_of_mem _ jl_X6_1) (List.mem_cons_of_mem _ jw_i_objectInit) (List.mem_cons_of_mem _ jw_c_objectInit) dX6_init_1 (Nat.le_of_ble_eq_true rfl) (Nat.le_of_ble_eq_true rfl) ?_
  refine c_aload_n (pc := 4) (n := n) (cells := 0) (slots := 0) K dX6_init_4 0 rfl ?_
  refine c_bipush (pc := 5) (n := n) (cells := 0) (slots := 0) (v := 10) K dX6_init_5 rfl ?_
  refine c_newa (pc := 7) (n := n) (cells := 0) (slots := 0) (atype := .int) (ty := .int) K 0 10 rfl rfl rfl (fun _ _ => rfl) (List.mem_cons_of_mem _ jw_y_int) (by decide) (by decide) (Nat.le_of_ble_eq_true rfl) (Nat.le_of_ble_eq_true rfl) (Nat.le_of_ble_eq_true rfl) dX6_init_7 ?_
  refine c_nm hF (fun f1 h2 hF => ?_)
  have Oq3 : isO f1 (n + 1) a 6 := by rw [h2]; exact hO.new
  have Kq3 : h_K f n a f1 := by rw [h2]; exact (h_K.rf (f := f) (n := n) (a := a)).new (by omega) hO.1
  refine c_put (pc := 9) (n := n + 1) (cells := 1) (slots := 10) (C := RX6) (T := TX6) (N := 1) (j := 0) (ty := tyX6 0) K (1, n) hQ.2.2.2.1 Oq3 rfl rfl jn_X6 tyX6 tyX6_ok nmX6 (by decide) (List.mem_cons_of_mem _ jl_X6_9) (Or.inr ⟨rfl, rfl⟩) (tyX6_ok 0 (by decide)) rfl rfl rfl dX6_init_9 ?_
  refine c_nm hF (fun f4 h5 hF => ?_)
  have Oq6 : isO f4 (n + 1) a 6 := by rw [h5]; exact Oq3.put
  have Kq6 : h_K f n a f4 := by rw [h5]; exact Kq3.put
  subst hF
  exact c_ret (pc := 12) K hQ dX6_init_12
-- ===== the making of TwoCards$Affair
theorem jd_X0_init : yX0_init.cls ≠ "java/lang/invoke/MethodHandle" ∧ yX0_init.cls ≠ "java/lang/invoke/VarHandle" ∧ (parseMethodDescriptor yX0_init.desc).map (fun d => d.parameters.length) = some 0 := by decide +kernel
abbrev rmX0_init : Room := { frames := 2, cells := 22, slots := 9018, locals := 40 }
abbrev wqX0_init : List Cond := .code yX0_init cX0_init 1 none :: wsL_law
def gX0_init (n : Nat) (f : FH) (a : Nat) : FH := h_t (h_u f (n) (0, 6, [(2, 0)])) fun f1 => h_t (gX6_init (n + 1) f1 n) fun f4 => h_t (h_p f4 a 0 (1, n)) fun f7 => h_t (h_u f7 (n + 2) (0, 6, [(2, 0)])) fun f10 => h_t (gX6_init (n + 3) f10 (n + 2)) fun f13 => h_t (h_p f13 a 1 (1, (n + 2))) fun f16 => h_t (h_u f16 (n + 4) (0, 2, [(2, 0), (2, 0), (2, 0), (2, 0), (2, 0), (2, 0), (2, 0), (0, 0), (0, 0), (0, 0), (0, 0), (0, 0)])) fun f19 => h_t (gX2_init (n + 5) f19 (n + 4)) fun f22 => h_t (h_p f22 a 2 (1, (n + 4))) fun f25 => h_t (h_u f25 (n + 12) (0, 2, [(2, 0), (2, 0), (2, 0), (2, 0), (2, 0), (2, 0), (2, 0), (0, 0), (0, 0), (0, 0), (0, 0), (0, 0)])) fun f28 => h_t (gX2_init (n + 13) f28 (n + 12)) fun f31 => h_t (h_p f31 a 3 (1, (n + 12))) fun f34 => h_t (h_u f34 (n + 20) (1, 0, [(0, 4096)])) fun f37 => h_t (h_p f37 a 6 (1, (n + 20))) fun f40 => h_t (h_u f40 (n + 21) (1, 0, [(0, 4096)])) fun f43 => h_t (h_p f43 a 7 (1, (n + 21))) fun f46 => f46
set_option maxRecDepth 100000 in
set_option maxHeartbeats 8000000 in
theorem wX0_init {n a : Nat} {f f1 : FH} (hO : isO f n a 0) (hF : gX0_init n f a = f1) : h_K f n a f1 := by
  unfold gX0_init at hF
  obtain ⟨f1, h2, hF⟩ := h_tE hF
  have Oq3 : isO f1 (n + 1) a 0 := by rw [h2]; exact hO.new
  have Kq3 : h_K f n a f1 := by rw [h2]; exact (h_K.rf (f := f) (n := n) (a := a)).new (by omega) hO.1
  have F0h2 : isO f1 (n + 1) n 6 := by rw [h2]; exact isO.here rfl
  obtain ⟨f4, h5, hF⟩ := h_tE hF
  have Ch5 : h_K f1 (n + 1) n f4 := by rw [h5]; exact wX6_init F0h2 rfl
  have Oq6 : isO f4 (n + 2) a 0 := Oq3.call Ch5 (by omega)
  have Kq6 : h_K f n a f4 := Kq3.call Ch5 (by omega) (by omega) hO.1
  have Fq6_0 : isO f4 (n + 2) n 6 := F0h2.call Ch5 (by omega)
  obtain ⟨f7, h8, hF⟩ := h_tE hF
  have Oq9 : isO f7 (n + 2) a 0 := by rw [h8]; exact Oq6.put
  have Kq9 : h_K f n a f7 := by rw [h8]; exact Kq6.put
  have Fq9_1 : isO f7 (n + 2) n 6 := by rw [h8]; exact Fq6_0.put
  obtain ⟨f10, h11, hF⟩ := h_tE hF
  have Oq12 : isO f10 (n + 3) a 0 := by rw [h11]; exact Oq9.new
  have Kq12 : h_K f n a f10 := by rw [h11]; exact Kq9.new (by omega) hO.1
  have F0h11 : isO f10 (n + 3) (n + 2) 6 := by rw [h11]; exact isO.here rfl
  obtain ⟨f13, h14, hF⟩ := h_tE hF
  have Ch14 : h_K f10 (n + 3) (n + 2) f13 := by rw [h14]; exact wX6_init F0h11 rfl
  have Oq15 : isO f13 (n + 4) a 0 := Oq12.call Ch14 (by omega)
  have Kq15 : h_K f n a f13 := Kq12.call Ch14 (by omega) (by omega) hO.1
  have Fq15_2 : isO f13 (n + 4) (n + 2) 6 := F0h11.call Ch14 (by omega)
  obtain ⟨f16, h17, hF⟩ := h_tE hF
  have Oq18 : isO f16 (n + 4) a 0 := by rw [h17]; exact Oq15.put
  have Kq18 : h_K f n a f16 := by rw [h17]; exact Kq15.put
  have Fq18_9 : isO f16 (n + 4) (n + 2) 6 := by rw [h17]; exact Fq15_2.put
  obtain ⟨f19, h20, hF⟩ := h_tE hF
  have Oq21 : isO f19 (n + 5) a 0 := by rw [h20]; exact Oq18.new
  have Kq21 : h_K f n a f19 := by rw [h20]; exact Kq18.new (by omega) hO.1
  have F0h20 : isO f19 (n + 5) (n + 4) 2 := by rw [h20]; exact isO.here rfl
  obtain ⟨f22, h23, hF⟩ := h_tE hF
  have Ch23 : h_K f19 (n + 5) (n + 4) f22 := by rw [h23]; exact wX2_init F0h20 rfl
  have Oq24 : isO f22 (n + 12) a 0 := Oq21.call Ch23 (by omega)
  have Kq24 : h_K f n a f22 := Kq21.call Ch23 (by omega) (by omega) hO.1
  have Fq24_4 : isO f22 (n + 12) (n + 4) 2 := F0h20.call Ch23 (by omega)
  obtain ⟨f25, h26, hF⟩ := h_tE hF
  have Oq27 : isO f25 (n + 12) a 0 := by rw [h26]; exact Oq24.put
  have Kq27 : h_K f n a f25 := by rw [h26]; exact Kq24.put
  have Fq27_11 : isO f25 (n + 12) (n + 4) 2 := by rw [h26]; exact Fq24_4.put
  obtain ⟨f28, h29, hF⟩ := h_tE hF
  have Oq30 : isO f28 (n + 13) a 0 := by rw [h29]; exact Oq27.new
  have Kq30 : h_K f n a f28 := by rw [h29]; exact Kq27.new (by omega) hO.1
  have F0h29 : isO f28 (n + 13) (n + 12) 2 := by rw [h29]; exact isO.here rfl
  obtain ⟨f31, h32, hF⟩ := h_tE hF
  have Ch32 : h_K f28 (n + 13) (n + 12) f31 := by rw [h32]; exact wX2_init F0h29 rfl
  have Oq33 : isO f31 (n + 20) a 0 := Oq30.call Ch32 (by omega)
  have Kq33 : h_K f n a f31 := Kq30.call Ch32 (by omega) (by omega) hO.1
  have Fq33_12 : isO f31 (n + 20) (n + 12) 2 := F0h29.call Ch32 (by omega)
  obtain ⟨f34, h35, hF⟩ := h_tE hF
  have Oq36 : isO f34 (n + 20) a 0 := by rw [h35]; exact Oq33.put
  have Kq36 : h_K f n a f34 := by rw [h35]; exact Kq33.put
  have Fq36_20 : isO f34 (n + 20) (n + 12) 2 := by rw [h35]; exact Fq33_12.put
  obtain ⟨f37, h38, hF⟩ := h_tE hF
  have Oq39 : isO f37 (n + 21) a 0 := by rw [h38]; exact Oq36.new
  have Kq39 : h_K f n a f37 := by rw [h38]; exact Kq36.new (by omega) hO.1
  obtain ⟨f40, h41, hF⟩ := h_tE hF
  have Oq42 : isO f40 (n + 21) a 0 := by rw [h41]; exact Oq39.put
  have Kq42 : h_K f n a f40 := by rw [h41]; exact Kq39.put
  obtain ⟨f43, h44, hF⟩ := h_tE hF
  have Oq45 : isO f43 (n + 22) a 0 := by rw [h44]; exact Oq42.new
  have Kq45 : h_K f n a f43 := by rw [h44]; exact Kq42.new (by omega) hO.1
  obtain ⟨f46, h47, hF⟩ := h_tE hF
  have Oq48 : isO f46 (n + 22) a 0 := by rw [h47]; exact Oq45.put
  have Kq48 : h_K f n a f46 := by rw [h47]; exact Kq45.put
  subst hF
  exact Kq48
set_option maxRecDepth 100000 in
set_option maxHeartbeats 8000000 in
theorem kX0_init (l : Launch) {y : Ly} {B n a : Nat} {f f1 : FH} (hO : isO f n a 0) (hF : gX0_init n f a = f1) : Met l yX0_init wqX0_init rmX0_init (h_P y B [.ref (B + a)] n f) (h_E y B (n + 22) f1) 22 9018 (h_A B) := by
  refine c_met (by decide) rfl rfl rfl (fun x K hQ => ?_)
  unfold gX0_init at hF
  refine c_aload_n (pc := 0) (n := n) (cells := 0) (slots := 0) K dX0_init_0 0 rfl ?_
  refine c_objInit (pc := 1) (n := n) (cells := 0) (slots := 0) K (List.mem_cons_of_mem _ jl_X0_3) (List.mem_cons_of_mem _ jw_i_objectInit) (List.mem_cons_of_mem _ jw_c_objectInit) dX0_init_1 (Nat.le_of_ble_eq_true rfl) (Nat.le_of_ble_eq_true rfl) ?_
  refine c_aload_n (pc := 4) (n := n) (cells := 0) (slots := 0) K dX0_init_4 0 rfl ?_
  refine c_new (pc := 5) (n := n) (cells := 0) (slots := 0) (ci := 6) (C := RX6) (T := TX6) (N := 1) K [(2, 0)] rfl rfl jn_X6 tyX6 tyX6_ok (List.mem_cons_of_mem _ jl_X0_9) (List.mem_cons_of_mem _ jw_a_X6) (List.mem_cons_of_mem _ jw_n_X6) df_X6 (Nat.le_of_ble_eq_true rfl) (Nat.le_of_ble_eq_true rfl) dX0_init_5 ?_
  refine c_nm hF (fun f1 h2 hF => ?_)
  have Oq3 : isO f1 (n + 1) a 0 := by rw [h2]; exact hO.new
  have Kq3 : h_K f n a f1 := by rw [h2]; exact (h_K.rf (f := f) (n := n) (a := a)).new (by omega) hO.1
  have F0h2 : isO f1 (n + 1) n 6 := by rw [h2]; exact isO.here rfl
  refine c_dup (pc := 8) (n := n + 1) (cells := 1) (slots := 1) K dX0_init_8 rfl ?_
  refine c_callN (pc := 9) (n := n + 1) (cells := 1) (slots := 1) (host := "TwoCards") K (kX6_init l F0h2 rfl) hQ.2.2.2.2 (jg_cons jw_c_X6_init) rfl rfl rfl (List.mem_cons_of_mem _ jw_n_X6) (by decide +kernel) (List.mem_cons_of_mem _ jw_i_X6_init) rfl jd_X6_init ⟨Nat.le_of_ble_eq_true rfl, Nat.le_of_ble_eq_true rfl⟩ (Nat.le_of_ble_eq_true rfl) (Nat.le_of_ble_eq_true rfl) (Nat.le_of_ble_eq_true rfl) dX0_init_9 ?_
  refine c_nm hF (fun f4 h5 hF => ?_)
  have Ch5 : h_K f1 (n + 1) n f4 := by rw [h5]; exact wX6_init F0h2 rfl
  have Oq6 : isO f4 (n + 2) a 0 := Oq3.call Ch5 (by omega)
  have Kq6 : h_K f n a f4 := Kq3.call Ch5 (by omega) (by omega) hO.1
  have Fq6_0 : isO f4 (n + 2) n 6 := F0h2.call Ch5 (by omega)
  refine c_put (pc := 12) (n := n + 2) (cells := 2) (slots := 11) (C := RX0) (T := TX0) (N := 9) (j := 0) (ty := tyX0 0) K (1, n) hQ.2.2.2.1 Oq6 rfl rfl jn_X0 tyX0 tyX0_ok nmX0 (by decide) (List.mem_cons_of_mem _ jl_X0_12) (Or.inr ⟨rfl, rfl⟩) (tyX0_ok 0 (by decide)) rfl rfl rfl dX0_init_12 ?_
  refine c_nm hF (fun f7 h8 hF => ?_)
  have Oq9 : isO f7 (n + 2) a 0 := by rw [h8]; exact Oq6.put
  have Kq9 : h_K f n a f7 := by rw [h8]; exact Kq6.put
  have Fq9_1 : isO f7 (n + 2) n 6 := by rw [h8]; exact Fq6_0.put
  refine c_aload_n (pc := 15) (n := n + 2) (cells := 2) (slots := 11) K dX0_init_15 0 rfl ?_
  refine c_new (pc := 16) (n := n + 2) (cells := 2) (slots := 11) (ci := 6) (C := RX6) (T := TX6) (N := 1) K [(2, 0)] rfl rfl jn_X6 tyX6 tyX6_ok (List.mem_cons_of_mem _ jl_X0_9) (List.mem_cons_of_mem _ jw_a_X6) (List.mem_cons_of_mem _ jw_n_X6) df_X6 (Nat.le_of_ble_eq_true rfl) (Nat.le_of_ble_eq_true rfl) dX0_init_16 ?_
  refine c_nm hF (fun f10 h11 hF => ?_)
  have Oq12 : isO f10 (n + 3) a 0 := by rw [h11]; exact Oq9.new
  have Kq12 : h_K f n a f10 := by rw [h11]; exact Kq9.new (by omega) hO.1
  have F0h11 : isO f10 (n + 3) (n + 2) 6 := by rw [h11]; exact isO.here rfl
  refine c_dup (pc := 19) (n := n + 3) (cells := 3) (slots := 12) K dX0_init_19 rfl ?_
  refine c_callN (pc := 20) (n := n + 3) (cells := 3) (slots := 12) (host := "TwoCards") K (kX6_init l F0h11 rfl) hQ.2.2.2.2 (jg_cons jw_c_X6_init) rfl rfl rfl (List.mem_cons_of_mem _ jw_n_X6) (by decide +kernel) (List.mem_cons_of_mem _ jw_i_X6_init) rfl jd_X6_init ⟨Nat.le_of_ble_eq_true rfl, Nat.le_of_ble_eq_true rfl⟩ (Nat.le_of_ble_eq_true rfl) (Nat.le_of_ble_eq_true rfl) (Nat.le_of_ble_eq_true rfl) dX0_init_20 ?_
  refine c_nm hF (fun f13 h14 hF => ?_)
  have Ch14 : h_K f10 (n + 3) (n + 2) f13 := by rw [h14]; exact wX6_init F0h11 rfl
  have Oq15 : isO f13 (n + 4) a 0 := Oq12.call Ch14 (by omega)
  have Kq15 : h_K f n a f13 := Kq12.call Ch14 (by omega) (by omega) hO.1
  have Fq15_2 : isO f13 (n + 4) (n + 2) 6 := F0h11.call Ch14 (by omega)
  refine c_put (pc := 23) (n := n + 4) (cells := 4) (slots := 22) (C := RX0) (T := TX0) (N := 9) (j := 1) (ty := tyX0 1) K (1, (n + 2)) hQ.2.2.2.1 Oq15 rfl rfl jn_X0 tyX0 tyX0_ok nmX0 (by decide) (List.mem_cons_of_mem _ jl_X0_18) (Or.inr ⟨rfl, rfl⟩) (tyX0_ok 1 (by decide)) rfl rfl rfl dX0_init_23 ?_
  refine c_nm hF (fun f16 h17 hF => ?_)
  have Oq18 : isO f16 (n + 4) a 0 := by rw [h17]; exact Oq15.put
  have Kq18 : h_K f n a f16 := by rw [h17]; exact Kq15.put
  have Fq18_9 : isO f16 (n + 4) (n + 2) 6 := by rw [h17]; exact Fq15_2.put
  refine c_aload_n (pc := 26) (n := n + 4) (cells := 4) (slots := 22) K dX0_init_26 0 rfl ?_
  refine c_new (pc := 27) (n := n + 4) (cells := 4) (slots := 22) (ci := 2) (C := RX2) (T := TX2) (N := 12) K [(2, 0), (2, 0), (2, 0), (2, 0), (2, 0), (2, 0), (2, 0), (0, 0), (0, 0), (0, 0), (0, 0), (0, 0)] rfl rfl jn_X2 tyX2 tyX2_ok (List.mem_cons_of_mem _ jl_X0_21) (List.mem_cons_of_mem _ jw_a_X2) (List.mem_cons_of_mem _ jw_n_X2) df_X2 (Nat.le_of_ble_eq_true rfl) (Nat.le_of_ble_eq_true rfl) dX0_init_27 ?_
  refine c_nm hF (fun f19 h20 hF => ?_)
  have Oq21 : isO f19 (n + 5) a 0 := by rw [h20]; exact Oq18.new
  have Kq21 : h_K f n a f19 := by rw [h20]; exact Kq18.new (by omega) hO.1
  have F0h20 : isO f19 (n + 5) (n + 4) 2 := by rw [h20]; exact isO.here rfl
  refine c_dup (pc := 30) (n := n + 5) (cells := 5) (slots := 34) K dX0_init_30 rfl ?_
  refine c_callN (pc := 31) (n := n + 5) (cells := 5) (slots := 34) (host := "TwoCards") K (kX2_init l F0h20 rfl) hQ.2.2.2.2 (jg_cons jw_c_X2_init) rfl rfl rfl (List.mem_cons_of_mem _ jw_n_X2) (by decide +kernel) (List.mem_cons_of_mem _ jw_i_X2_init) rfl jd_X2_init ⟨Nat.le_of_ble_eq_true rfl, Nat.le_of_ble_eq_true rfl⟩ (Nat.le_of_ble_eq_true rfl) (Nat.le_of_ble_eq_true rfl) (Nat.le_of_ble_eq_true rfl) dX0_init_31 ?_
  refine c_nm hF (fun f22 h23 hF => ?_)
  have Ch23 : h_K f19 (n + 5) (n + 4) f22 := by rw [h23]; exact wX2_init F0h20 rfl
  have Oq24 : isO f22 (n + 12) a 0 := Oq21.call Ch23 (by omega)
  have Kq24 : h_K f n a f22 := Kq21.call Ch23 (by omega) (by omega) hO.1
  have Fq24_4 : isO f22 (n + 12) (n + 4) 2 := F0h20.call Ch23 (by omega)
  refine c_put (pc := 34) (n := n + 12) (cells := 12) (slots := 424) (C := RX0) (T := TX0) (N := 9) (j := 2) (ty := tyX0 2) K (1, (n + 4)) hQ.2.2.2.1 Oq24 rfl rfl jn_X0 tyX0 tyX0_ok nmX0 (by decide) (List.mem_cons_of_mem _ jl_X0_24) (Or.inl rfl) (tyX0_ok 2 (by decide)) rfl rfl rfl dX0_init_34 ?_
  refine c_nm hF (fun f25 h26 hF => ?_)
  have Oq27 : isO f25 (n + 12) a 0 := by rw [h26]; exact Oq24.put
  have Kq27 : h_K f n a f25 := by rw [h26]; exact Kq24.put
  have Fq27_11 : isO f25 (n + 12) (n + 4) 2 := by rw [h26]; exact Fq24_4.put
  refine c_aload_n (pc := 37) (n := n + 12) (cells := 12) (slots := 424) K dX0_init_37 0 rfl ?_
  refine c_new (pc := 38) (n := n + 12) (cells := 12) (slots := 424) (ci := 2) (C := RX2) (T := TX2) (N := 12) K [(2, 0), (2, 0), (2, 0), (2, 0), (2, 0), (2, 0), (2, 0), (0, 0), (0, 0), (0, 0), (0, 0), (0, 0)] rfl rfl jn_X2 tyX2 tyX2_ok (List.mem_cons_of_mem _ jl_X0_21) (List.mem_cons_of_mem _ jw_a_X2) (List.mem_cons_of_mem _ jw_n_X2) df_X2 (Nat.le_of_ble_eq_true rfl) (Nat.le_of_ble_eq_true rfl) dX0_init_38 ?_
  refine c_nm hF (fun f28 h29 hF => ?_)
  have Oq30 : isO f28 (n + 13) a 0 := by rw [h29]; exact Oq27.new
  have Kq30 : h_K f n a f28 := by rw [h29]; exact Kq27.new (by omega) hO.1
  have F0h29 : isO f28 (n + 13) (n + 12) 2 := by rw [h29]; exact isO.here rfl
  refine c_dup (pc := 41) (n := n + 13) (cells := 13) (slots := 436) K dX0_init_41 rfl ?_
  refine c_callN (pc := 42) (n := n + 13) (cells := 13) (slots := 436) (host := "TwoCards") K (kX2_init l F0h29 rfl) hQ.2.2.2.2 (jg_cons jw_c_X2_init) rfl rfl rfl (List.mem_cons_of_mem _ jw_n_X2) (by decide +kernel) (List.mem_cons_of_mem _ jw_i_X2_init) rfl jd_X2_init ⟨Nat.le_of_ble_eq_true rfl, Nat.le_of_ble_eq_true rfl⟩ (Nat.le_of_ble_eq_true rfl) (Nat.le_of_ble_eq_true rfl) (Nat.le_of_ble_eq_true rfl) dX0_init_42 ?_
  refine c_nm hF (fun f31 h32 hF => ?_)
  have Ch32 : h_K f28 (n + 13) (n + 12) f31 := by rw [h32]; exact wX2_init F0h29 rfl
  have Oq33 : isO f31 (n + 20) a 0 := Oq30.call Ch32 (by omega)
  have Kq33 : h_K f n a f31 := Kq30.call Ch32 (by omega) (by omega) hO.1
  have Fq33_12 : isO f31 (n + 20) (n + 12) 2 := F0h29.call Ch32 (by omega)
  refine c_put (pc := 45) (n := n + 20) (cells := 20) (slots := 826) (C := RX0) (T := TX0) (N := 9) (j := 3) (ty := tyX0 3) K (1, (n + 12)) hQ.2.2.2.1 Oq33 rfl rfl jn_X0 tyX0 tyX0_ok nmX0 (by decide) (List.mem_cons_of_mem _ jl_X0_28) (Or.inl rfl) (tyX0_ok 3 (by decide)) rfl rfl rfl dX0_init_45 ?_
  refine c_nm hF (fun f34 h35 hF => ?_)
  have Oq36 : isO f34 (n + 20) a 0 := by rw [h35]; exact Oq33.put
  have Kq36 : h_K f n a f34 := by rw [h35]; exact Kq33.put
  have Fq36_20 : isO f34 (n + 20) (n + 12) 2 := by rw [h35]; exact Fq33_12.put
  refine c_aload_n (pc := 48) (n := n + 20) (cells := 20) (slots := 826) K dX0_init_48 0 rfl ?_
  refine c_sipush (pc := 49) (n := n + 20) (cells := 20) (slots := 826) (v := 4096) K dX0_init_49 rfl ?_
  refine c_newa (pc := 52) (n := n + 20) (cells := 20) (slots := 826) (atype := .int) (ty := .int) K 0 4096 rfl rfl rfl (fun _ _ => rfl) (List.mem_cons_of_mem _ jw_y_int) (by decide) (by decide) (Nat.le_of_ble_eq_true rfl) (Nat.le_of_ble_eq_true rfl) (Nat.le_of_ble_eq_true rfl) dX0_init_52 ?_
  refine c_nm hF (fun f37 h38 hF => ?_)
  have Oq39 : isO f37 (n + 21) a 0 := by rw [h38]; exact Oq36.new
  have Kq39 : h_K f n a f37 := by rw [h38]; exact Kq36.new (by omega) hO.1
  refine c_put (pc := 54) (n := n + 21) (cells := 21) (slots := 4922) (C := RX0) (T := TX0) (N := 9) (j := 6) (ty := tyX0 6) K (1, (n + 20)) hQ.2.2.2.1 Oq39 rfl rfl jn_X0 tyX0 tyX0_ok nmX0 (by decide) (List.mem_cons_of_mem _ jl_X0_31) (Or.inr ⟨rfl, rfl⟩) (tyX0_ok 6 (by decide)) rfl rfl rfl dX0_init_54 ?_
  refine c_nm hF (fun f40 h41 hF => ?_)
  have Oq42 : isO f40 (n + 21) a 0 := by rw [h41]; exact Oq39.put
  have Kq42 : h_K f n a f40 := by rw [h41]; exact Kq39.put
  refine c_aload_n (pc := 57) (n := n + 21) (cells := 21) (slots := 4922) K dX0_init_57 0 rfl ?_
  refine c_sipush (pc := 58) (n := n + 21) (cells := 21) (slots := 4922) (v := 4096) K dX0_init_58 rfl ?_
  refine c_newa (pc := 61) (n := n + 21) (cells := 21) (slots := 4922) (atype := .int) (ty := .int) K 0 4096 rfl rfl rfl (fun _ _ => rfl) (List.mem_cons_of_mem _ jw_y_int) (by decide) (by decide) (Nat.le_of_ble_eq_true rfl) (Nat.le_of_ble_eq_true rfl) (Nat.le_of_ble_eq_true rfl) dX0_init_61 ?_
  refine c_nm hF (fun f43 h44 hF => ?_)
  have Oq45 : isO f43 (n + 22) a 0 := by rw [h44]; exact Oq42.new
  have Kq45 : h_K f n a f43 := by rw [h44]; exact Kq42.new (by omega) hO.1
  refine c_put (pc := 63) (n := n + 22) (cells := 22) (slots := 9018) (C := RX0) (T := TX0) (N := 9) (j := 7) (ty := tyX0 7) K (1, (n + 21)) hQ.2.2.2.1 Oq45 rfl rfl jn_X0 tyX0 tyX0_ok nmX0 (by decide) (List.mem_cons_of_mem _ jl_X0_35) (Or.inr ⟨rfl, rfl⟩) (tyX0_ok 7 (by decide)) rfl rfl rfl dX0_init_63 ?_
  refine c_nm hF (fun f46 h47 hF => ?_)
  have Oq48 : isO f46 (n + 22) a 0 := by rw [h47]; exact Oq45.put
  have Kq48 : h_K f n a f46 := by rw [h47]; exact Kq45.put
  subst hF
  exact c_ret (pc := 66) K hQ dX0_init_66
-- ===== the making of TwoCards$Game
theorem jd_X3_init : yX3_init.cls ≠ "java/lang/invoke/MethodHandle" ∧ yX3_init.cls ≠ "java/lang/invoke/VarHandle" ∧ (parseMethodDescriptor yX3_init.desc).map (fun d => d.parameters.length) = some 0 := by decide +kernel
abbrev rmX3_init : Room := { frames := 1, cells := 1, slots := 4096, locals := 20 }
abbrev wqX3_init : List Cond := .code yX3_init cX3_init 1 none :: wsL_law
def gX3_init (n : Nat) (f : FH) (a : Nat) : FH := h_t (h_u f (n) (1, 0, [(0, 4096)])) fun f1 => h_t (h_p f1 a 0 (1, n)) fun f4 => f4
set_option maxRecDepth 100000 in
set_option maxHeartbeats 8000000 in
theorem wX3_init {n a : Nat} {f f1 : FH} (hO : isO f n a 3) (hF : gX3_init n f a = f1) : h_K f n a f1 := by
  unfold gX3_init at hF
  obtain ⟨f1, h2, hF⟩ := h_tE hF
  have Oq3 : isO f1 (n + 1) a 3 := by rw [h2]; exact hO.new
  have Kq3 : h_K f n a f1 := by rw [h2]; exact (h_K.rf (f := f) (n := n) (a := a)).new (by omega) hO.1
  obtain ⟨f4, h5, hF⟩ := h_tE hF
  have Oq6 : isO f4 (n + 1) a 3 := by rw [h5]; exact Oq3.put
  have Kq6 : h_K f n a f4 := by rw [h5]; exact Kq3.put
  subst hF
  exact Kq6
set_option maxRecDepth 100000 in
set_option maxHeartbeats 8000000 in
theorem kX3_init (l : Launch) {y : Ly} {B n a : Nat} {f f1 : FH} (hO : isO f n a 3) (hF : gX3_init n f a = f1) : Met l yX3_init wqX3_init rmX3_init (h_P y B [.ref (B + a)] n f) (h_E y B (n + 1) f1) 1 4096 (h_A B) := by
  refine c_met (by decide) rfl rfl rfl (fun x K hQ => ?_)
  unfold gX3_init at hF
  refine c_aload_n (pc := 0) (n := n) (cells := 0) (slots := 0) K dX3_init_0 0 rfl ?_
  refine c_objInit (pc := 1) (n := n) (cells := 0) (slots := 0) K (List.mem_cons_of_mem _ jl_X3_3) (List.mem_cons_of_mem _ jw_i_objectInit) (List.mem_cons_of_mem _ jw_c_objectInit) dX3_init_1 (Nat.le_of_ble_eq_true rfl) (Nat.le_of_ble_eq_true rfl) ?_
  refine c_aload_n (pc := 4) (n := n) (cells := 0) (slots := 0) K dX3_init_4 0 rfl ?_
  refine c_sipush (pc := 5) (n := n) (cells := 0) (slots := 0) (v := 4096) K dX3_init_5 rfl ?_
  refine c_newa (pc := 8) (n := n) (cells := 0) (slots := 0) (atype := .int) (ty := .int) K 0 4096 rfl rfl rfl (fun _ _ => rfl) (List.mem_cons_of_mem _ jw_y_int) (by decide) (by decide) (Nat.le_of_ble_eq_true rfl) (Nat.le_of_ble_eq_true rfl) (Nat.le_of_ble_eq_true rfl) dX3_init_8 ?_
  refine c_nm hF (fun f1 h2 hF => ?_)
  have Oq3 : isO f1 (n + 1) a 3 := by rw [h2]; exact hO.new
  have Kq3 : h_K f n a f1 := by rw [h2]; exact (h_K.rf (f := f) (n := n) (a := a)).new (by omega) hO.1
  refine c_put (pc := 10) (n := n + 1) (cells := 1) (slots := 4096) (C := RX3) (T := TX3) (N := 2) (j := 0) (ty := tyX3 0) K (1, n) hQ.2.2.2.1 Oq3 rfl rfl jn_X3 tyX3 tyX3_ok nmX3 (by decide) (List.mem_cons_of_mem _ jl_X3_9) (Or.inr ⟨rfl, rfl⟩) (tyX3_ok 0 (by decide)) rfl rfl rfl dX3_init_10 ?_
  refine c_nm hF (fun f4 h5 hF => ?_)
  have Oq6 : isO f4 (n + 1) a 3 := by rw [h5]; exact Oq3.put
  have Kq6 : h_K f n a f4 := by rw [h5]; exact Kq3.put
  subst hF
  exact c_ret (pc := 13) K hQ dX3_init_13
-- ===== the making of TwoCards$Walk
theorem jd_X10_init : yX10_init.cls ≠ "java/lang/invoke/MethodHandle" ∧ yX10_init.cls ≠ "java/lang/invoke/VarHandle" ∧ (parseMethodDescriptor yX10_init.desc).map (fun d => d.parameters.length) = some 0 := by decide +kernel
abbrev rmX10_init : Room := { frames := 1, cells := 6, slots := 16424, locals := 20 }
abbrev wqX10_init : List Cond := .code yX10_init cX10_init 1 none :: wsL_law
def gX10_init (n : Nat) (f : FH) (a : Nat) : FH := h_t (h_u f (n) (1, 0, [(0, 4096)])) fun f1 => h_t (h_p f1 a 0 (1, n)) fun f4 => h_t (h_u f4 (n + 1) (1, 1, [(0, 4096)])) fun f7 => h_t (h_p f7 a 1 (1, (n + 1))) fun f10 => h_t (h_u f10 (n + 2) (1, 0, [(0, 4096)])) fun f13 => h_t (h_p f13 a 2 (1, (n + 2))) fun f16 => h_t (h_u f16 (n + 3) (1, 0, [(0, 4096)])) fun f19 => h_t (h_p f19 a 3 (1, (n + 3))) fun f22 => h_t (h_u f22 (n + 4) (1, 1, [(0, 20)])) fun f25 => h_t (h_p f25 a 4 (1, (n + 4))) fun f28 => h_t (h_u f28 (n + 5) (1, 0, [(0, 20)])) fun f31 => h_t (h_p f31 a 5 (1, (n + 5))) fun f34 => f34
set_option maxRecDepth 100000 in
set_option maxHeartbeats 8000000 in
theorem wX10_init {n a : Nat} {f f1 : FH} (hO : isO f n a 9) (hF : gX10_init n f a = f1) : h_K f n a f1 := by
  unfold gX10_init at hF
  obtain ⟨f1, h2, hF⟩ := h_tE hF
  have Oq3 : isO f1 (n + 1) a 9 := by rw [h2]; exact hO.new
  have Kq3 : h_K f n a f1 := by rw [h2]; exact (h_K.rf (f := f) (n := n) (a := a)).new (by omega) hO.1
  obtain ⟨f4, h5, hF⟩ := h_tE hF
  have Oq6 : isO f4 (n + 1) a 9 := by rw [h5]; exact Oq3.put
  have Kq6 : h_K f n a f4 := by rw [h5]; exact Kq3.put
  obtain ⟨f7, h8, hF⟩ := h_tE hF
  have Oq9 : isO f7 (n + 2) a 9 := by rw [h8]; exact Oq6.new
  have Kq9 : h_K f n a f7 := by rw [h8]; exact Kq6.new (by omega) hO.1
  obtain ⟨f10, h11, hF⟩ := h_tE hF
  have Oq12 : isO f10 (n + 2) a 9 := by rw [h11]; exact Oq9.put
  have Kq12 : h_K f n a f10 := by rw [h11]; exact Kq9.put
  obtain ⟨f13, h14, hF⟩ := h_tE hF
  have Oq15 : isO f13 (n + 3) a 9 := by rw [h14]; exact Oq12.new
  have Kq15 : h_K f n a f13 := by rw [h14]; exact Kq12.new (by omega) hO.1
  obtain ⟨f16, h17, hF⟩ := h_tE hF
  have Oq18 : isO f16 (n + 3) a 9 := by rw [h17]; exact Oq15.put
  have Kq18 : h_K f n a f16 := by rw [h17]; exact Kq15.put
  obtain ⟨f19, h20, hF⟩ := h_tE hF
  have Oq21 : isO f19 (n + 4) a 9 := by rw [h20]; exact Oq18.new
  have Kq21 : h_K f n a f19 := by rw [h20]; exact Kq18.new (by omega) hO.1
  obtain ⟨f22, h23, hF⟩ := h_tE hF
  have Oq24 : isO f22 (n + 4) a 9 := by rw [h23]; exact Oq21.put
  have Kq24 : h_K f n a f22 := by rw [h23]; exact Kq21.put
  obtain ⟨f25, h26, hF⟩ := h_tE hF
  have Oq27 : isO f25 (n + 5) a 9 := by rw [h26]; exact Oq24.new
  have Kq27 : h_K f n a f25 := by rw [h26]; exact Kq24.new (by omega) hO.1
  obtain ⟨f28, h29, hF⟩ := h_tE hF
  have Oq30 : isO f28 (n + 5) a 9 := by rw [h29]; exact Oq27.put
  have Kq30 : h_K f n a f28 := by rw [h29]; exact Kq27.put
  obtain ⟨f31, h32, hF⟩ := h_tE hF
  have Oq33 : isO f31 (n + 6) a 9 := by rw [h32]; exact Oq30.new
  have Kq33 : h_K f n a f31 := by rw [h32]; exact Kq30.new (by omega) hO.1
  obtain ⟨f34, h35, hF⟩ := h_tE hF
  have Oq36 : isO f34 (n + 6) a 9 := by rw [h35]; exact Oq33.put
  have Kq36 : h_K f n a f34 := by rw [h35]; exact Kq33.put
  subst hF
  exact Kq36
set_option maxRecDepth 100000 in
set_option maxHeartbeats 8000000 in
theorem kX10_init (l : Launch) {y : Ly} {B n a : Nat} {f f1 : FH} (hO : isO f n a 9) (hF : gX10_init n f a = f1) : Met l yX10_init wqX10_init rmX10_init (h_P y B [.ref (B + a)] n f) (h_E y B (n + 6) f1) 6 16424 (h_A B) := by
  refine c_met (by decide) rfl rfl rfl (fun x K hQ => ?_)
  unfold gX10_init at hF
  refine c_aload_n (pc := 0) (n := n) (cells := 0) (slots := 0) K dX10_init_0 0 rfl ?_
  refine c_objInit (pc := 1) (n := n) (cells := 0) (slots := 0) K (List.mem_cons_of_mem _ jl_X10_3) (List.mem_cons_of_mem _ jw_i_objectInit) (List.mem_cons_of_mem _ jw_c_objectInit) dX10_init_1 (Nat.le_of_ble_eq_true rfl) (Nat.le_of_ble_eq_true rfl) ?_
  refine c_aload_n (pc := 4) (n := n) (cells := 0) (slots := 0) K dX10_init_4 0 rfl ?_
  refine c_sipush (pc := 5) (n := n) (cells := 0) (slots := 0) (v := 4096) K dX10_init_5 rfl ?_
  refine c_newa (pc := 8) (n := n) (cells := 0) (slots := 0) (atype := .int) (ty := .int) K 0 4096 rfl rfl rfl (fun _ _ => rfl) (List.mem_cons_of_mem _ jw_y_int) (by decide) (by decide) (Nat.le_of_ble_eq_true rfl) (Nat.le_of_ble_eq_true rfl) (Nat.le_of_ble_eq_true rfl) dX10_init_8 ?_
  refine c_nm hF (fun f1 h2 hF => ?_)
  have Oq3 : isO f1 (n + 1) a 9 := by rw [h2]; exact hO.new
  have Kq3 : h_K f n a f1 := by rw [h2]; exact (h_K.rf (f := f) (n := n) (a := a)).new (by omega) hO.1
  refine c_put (pc := 10) (n := n + 1) (cells := 1) (slots := 4096) (C := RX10) (T := TX10) (N := 9) (j := 0) (ty := tyX10 0) K (1, n) hQ.2.2.2.1 Oq3 rfl rfl jn_X10 tyX10 tyX10_ok nmX10 (by decide) (List.mem_cons_of_mem _ jl_X10_9) (Or.inr ⟨rfl, rfl⟩) (tyX10_ok 0 (by decide)) rfl rfl rfl dX10_init_10 ?_
  refine c_nm hF (fun f4 h5 hF => ?_)
  have Oq6 : isO f4 (n + 1) a 9 := by rw [h5]; exact Oq3.put
  have Kq6 : h_K f n a f4 := by rw [h5]; exact Kq3.put
  refine c_aload_n (pc := 13) (n := n + 1) (cells := 1) (slots := 4096) K dX10_init_13 0 rfl ?_
  refine c_sipush (pc := 14) (n := n + 1) (cells := 1) (slots := 4096) (v := 4096) K dX10_init_14 rfl ?_
  refine c_newa (pc := 17) (n := n + 1) (cells := 1) (slots := 4096) (atype := .long) (ty := .long) K 1 4096 rfl rfl rfl (fun _ _ => rfl) (List.mem_cons_of_mem _ jw_y_long) (by decide) (by decide) (Nat.le_of_ble_eq_true rfl) (Nat.le_of_ble_eq_true rfl) (Nat.le_of_ble_eq_true rfl) dX10_init_17 ?_
  refine c_nm hF (fun f7 h8 hF => ?_)
  have Oq9 : isO f7 (n + 2) a 9 := by rw [h8]; exact Oq6.new
  have Kq9 : h_K f n a f7 := by rw [h8]; exact Kq6.new (by omega) hO.1
  refine c_put (pc := 19) (n := n + 2) (cells := 2) (slots := 8192) (C := RX10) (T := TX10) (N := 9) (j := 1) (ty := tyX10 1) K (1, (n + 1)) hQ.2.2.2.1 Oq9 rfl rfl jn_X10 tyX10 tyX10_ok nmX10 (by decide) (List.mem_cons_of_mem _ jl_X10_15) (Or.inr ⟨rfl, rfl⟩) (tyX10_ok 1 (by decide)) rfl rfl rfl dX10_init_19 ?_
  refine c_nm hF (fun f10 h11 hF => ?_)
  have Oq12 : isO f10 (n + 2) a 9 := by rw [h11]; exact Oq9.put
  have Kq12 : h_K f n a f10 := by rw [h11]; exact Kq9.put
  refine c_aload_n (pc := 22) (n := n + 2) (cells := 2) (slots := 8192) K dX10_init_22 0 rfl ?_
  refine c_sipush (pc := 23) (n := n + 2) (cells := 2) (slots := 8192) (v := 4096) K dX10_init_23 rfl ?_
  refine c_newa (pc := 26) (n := n + 2) (cells := 2) (slots := 8192) (atype := .int) (ty := .int) K 0 4096 rfl rfl rfl (fun _ _ => rfl) (List.mem_cons_of_mem _ jw_y_int) (by decide) (by decide) (Nat.le_of_ble_eq_true rfl) (Nat.le_of_ble_eq_true rfl) (Nat.le_of_ble_eq_true rfl) dX10_init_26 ?_
  refine c_nm hF (fun f13 h14 hF => ?_)
  have Oq15 : isO f13 (n + 3) a 9 := by rw [h14]; exact Oq12.new
  have Kq15 : h_K f n a f13 := by rw [h14]; exact Kq12.new (by omega) hO.1
  refine c_put (pc := 28) (n := n + 3) (cells := 3) (slots := 12288) (C := RX10) (T := TX10) (N := 9) (j := 2) (ty := tyX10 2) K (1, (n + 2)) hQ.2.2.2.1 Oq15 rfl rfl jn_X10 tyX10 tyX10_ok nmX10 (by decide) (List.mem_cons_of_mem _ jl_X10_19) (Or.inr ⟨rfl, rfl⟩) (tyX10_ok 2 (by decide)) rfl rfl rfl dX10_init_28 ?_
  refine c_nm hF (fun f16 h17 hF => ?_)
  have Oq18 : isO f16 (n + 3) a 9 := by rw [h17]; exact Oq15.put
  have Kq18 : h_K f n a f16 := by rw [h17]; exact Kq15.put
  refine c_aload_n (pc := 31) (n := n + 3) (cells := 3) (slots := 12288) K dX10_init_31 0 rfl ?_
  refine c_sipush (pc := 32) (n := n + 3) (cells := 3) (slots := 12288) (v := 4096) K dX10_init_32 rfl ?_
  refine c_newa (pc := 35) (n := n + 3) (cells := 3) (slots := 12288) (atype := .int) (ty := .int) K 0 4096 rfl rfl rfl (fun _ _ => rfl) (List.mem_cons_of_mem _ jw_y_int) (by decide) (by decide) (Nat.le_of_ble_eq_true rfl) (Nat.le_of_ble_eq_true rfl) (Nat.le_of_ble_eq_true rfl) dX10_init_35 ?_
  refine c_nm hF (fun f19 h20 hF => ?_)
  have Oq21 : isO f19 (n + 4) a 9 := by rw [h20]; exact Oq18.new
  have Kq21 : h_K f n a f19 := by rw [h20]; exact Kq18.new (by omega) hO.1
  refine c_put (pc := 37) (n := n + 4) (cells := 4) (slots := 16384) (C := RX10) (T := TX10) (N := 9) (j := 3) (ty := tyX10 3) K (1, (n + 3)) hQ.2.2.2.1 Oq21 rfl rfl jn_X10 tyX10 tyX10_ok nmX10 (by decide) (List.mem_cons_of_mem _ jl_X10_22) (Or.inr ⟨rfl, rfl⟩) (tyX10_ok 3 (by decide)) rfl rfl rfl dX10_init_37 ?_
  refine c_nm hF (fun f22 h23 hF => ?_)
  have Oq24 : isO f22 (n + 4) a 9 := by rw [h23]; exact Oq21.put
  have Kq24 : h_K f n a f22 := by rw [h23]; exact Kq21.put
  refine c_aload_n (pc := 40) (n := n + 4) (cells := 4) (slots := 16384) K dX10_init_40 0 rfl ?_
  refine c_bipush (pc := 41) (n := n + 4) (cells := 4) (slots := 16384) (v := 20) K dX10_init_41 rfl ?_
  refine c_newa (pc := 43) (n := n + 4) (cells := 4) (slots := 16384) (atype := .long) (ty := .long) K 1 20 rfl rfl rfl (fun _ _ => rfl) (List.mem_cons_of_mem _ jw_y_long) (by decide) (by decide) (Nat.le_of_ble_eq_true rfl) (Nat.le_of_ble_eq_true rfl) (Nat.le_of_ble_eq_true rfl) dX10_init_43 ?_
  refine c_nm hF (fun f25 h26 hF => ?_)
  have Oq27 : isO f25 (n + 5) a 9 := by rw [h26]; exact Oq24.new
  have Kq27 : h_K f n a f25 := by rw [h26]; exact Kq24.new (by omega) hO.1
  refine c_put (pc := 45) (n := n + 5) (cells := 5) (slots := 16404) (C := RX10) (T := TX10) (N := 9) (j := 4) (ty := tyX10 4) K (1, (n + 4)) hQ.2.2.2.1 Oq27 rfl rfl jn_X10 tyX10 tyX10_ok nmX10 (by decide) (List.mem_cons_of_mem _ jl_X10_25) (Or.inr ⟨rfl, rfl⟩) (tyX10_ok 4 (by decide)) rfl rfl rfl dX10_init_45 ?_
  refine c_nm hF (fun f28 h29 hF => ?_)
  have Oq30 : isO f28 (n + 5) a 9 := by rw [h29]; exact Oq27.put
  have Kq30 : h_K f n a f28 := by rw [h29]; exact Kq27.put
  refine c_aload_n (pc := 48) (n := n + 5) (cells := 5) (slots := 16404) K dX10_init_48 0 rfl ?_
  refine c_bipush (pc := 49) (n := n + 5) (cells := 5) (slots := 16404) (v := 20) K dX10_init_49 rfl ?_
  refine c_newa (pc := 51) (n := n + 5) (cells := 5) (slots := 16404) (atype := .int) (ty := .int) K 0 20 rfl rfl rfl (fun _ _ => rfl) (List.mem_cons_of_mem _ jw_y_int) (by decide) (by decide) (Nat.le_of_ble_eq_true rfl) (Nat.le_of_ble_eq_true rfl) (Nat.le_of_ble_eq_true rfl) dX10_init_51 ?_
  refine c_nm hF (fun f31 h32 hF => ?_)
  have Oq33 : isO f31 (n + 6) a 9 := by rw [h32]; exact Oq30.new
  have Kq33 : h_K f n a f31 := by rw [h32]; exact Kq30.new (by omega) hO.1
  refine c_put (pc := 53) (n := n + 6) (cells := 6) (slots := 16424) (C := RX10) (T := TX10) (N := 9) (j := 5) (ty := tyX10 5) K (1, (n + 5)) hQ.2.2.2.1 Oq33 rfl rfl jn_X10 tyX10 tyX10_ok nmX10 (by decide) (List.mem_cons_of_mem _ jl_X10_28) (Or.inr ⟨rfl, rfl⟩) (tyX10_ok 5 (by decide)) rfl rfl rfl dX10_init_53 ?_
  refine c_nm hF (fun f34 h35 hF => ?_)
  have Oq36 : isO f34 (n + 6) a 9 := by rw [h35]; exact Oq33.put
  have Kq36 : h_K f n a f34 := by rw [h35]; exact Kq33.put
  subst hF
  exact c_ret (pc := 56) K hQ dX10_init_56
-- ===== the making of TwoCards
theorem jd_X11_init : yX11_init.cls ≠ "java/lang/invoke/MethodHandle" ∧ yX11_init.cls ≠ "java/lang/invoke/VarHandle" ∧ (parseMethodDescriptor yX11_init.desc).map (fun d => d.parameters.length) = some 0 := by decide +kernel
abbrev rmX11_init : Room := { frames := 3, cells := 502, slots := 37995, locals := 61 }
abbrev wqX11_init : List Cond := .code yX11_init cX11_init 2 none :: wsL_law
def gX11_init (n : Nat) (f : FH) (a : Nat) : FH := h_t (h_u f (n) (0, 7, [(2, 0), (0, 0)])) fun f1 => h_t (gX8_init (n + 1) f1 n) fun f4 => h_t (h_p f4 a 0 (1, n)) fun f7 => h_t (h_u f7 (n + 2) (2, 4, List.replicate 6 (2, 0))) fun f10 => h_t (h_p f10 a 1 (1, (n + 2))) fun f13 => h_t (h_u f13 (n + 3) (0, 2, [(2, 0), (2, 0), (2, 0), (2, 0), (2, 0), (2, 0), (2, 0), (0, 0), (0, 0), (0, 0), (0, 0), (0, 0)])) fun f16 => h_t (gX2_init (n + 4) f16 (n + 3)) fun f19 => h_t (h_p f19 a 2 (1, (n + 3))) fun f22 => h_t (h_u f22 (n + 11) (0, 5, [(2, 0), (2, 0), (0, 0), (0, 0), (0, 0), (0, 0)])) fun f25 => h_t (gX5_init (n + 12) f25 (n + 11)) fun f28 => h_t (h_p f28 a 3 (1, (n + 11))) fun f31 => h_t (h_u f31 (n + 24) (0, 1, [(2, 0), (2, 0), (2, 0), (2, 0), (2, 0), (2, 0), (0, 0), (0, 0), (0, 0)])) fun f34 => h_t (gX1_init (n + 25) f34 (n + 24)) fun f37 => h_t (h_p f37 a 4 (1, (n + 24))) fun f40 => h_t (h_u f40 (n + 103) (2, 6, List.replicate 4 (2, 0))) fun f43 => h_t (h_p f43 a 5 (1, (n + 103))) fun f46 => h_t (h_u f46 (n + 104) (0, 6, [(2, 0)])) fun f49 => h_t (gX6_init (n + 105) f49 (n + 104)) fun f52 => h_t (h_p f52 a 6 (1, (n + 104))) fun f55 => h_t (h_u f55 (n + 106) (0, 0, [(2, 0), (2, 0), (2, 0), (2, 0), (0, 0), (0, 0), (2, 0), (2, 0), (0, 0)])) fun f58 => h_t (gX0_init (n + 107) f58 (n + 106)) fun f61 => h_t (h_p f61 a 7 (1, (n + 106))) fun f64 => h_t (h_u f64 (n + 129) (0, 3, [(2, 0), (0, 0)])) fun f67 => h_t (gX3_init (n + 130) f67 (n + 129)) fun f70 => h_t (h_p f70 a 8 (1, (n + 129))) fun f73 => h_t (h_u f73 (n + 131) (0, 9, [(2, 0), (2, 0), (2, 0), (2, 0), (2, 0), (2, 0), (0, 0), (0, 0), (0, 0)])) fun f76 => h_t (gX10_init (n + 132) f76 (n + 131)) fun f79 => h_t (h_p f79 a 9 (1, (n + 131))) fun f82 => h_t (h_u f82 (n + 138) (0, 2, [(2, 0), (2, 0), (2, 0), (2, 0), (2, 0), (2, 0), (2, 0), (0, 0), (0, 0), (0, 0), (0, 0), (0, 0)])) fun f85 => h_t (gX2_init (n + 139) f85 (n + 138)) fun f88 => h_t (h_p f88 (n + 2) 0 (1, (n + 138))) fun f91 => h_t (h_u f91 (n + 146) (0, 2, [(2, 0), (2, 0), (2, 0), (2, 0), (2, 0), (2, 0), (2, 0), (0, 0), (0, 0), (0, 0), (0, 0), (0, 0)])) fun f94 => h_t (gX2_init (n + 147) f94 (n + 146)) fun f97 => h_t (h_p f97 (n + 2) 1 (1, (n + 146))) fun f100 => h_t (h_u f100 (n + 154) (0, 2, [(2, 0), (2, 0), (2, 0), (2, 0), (2, 0), (2, 0), (2, 0), (0, 0), (0, 0), (0, 0), (0, 0), (0, 0)])) fun f103 => h_t (gX2_init (n + 155) f103 (n + 154)) fun f106 => h_t (h_p f106 (n + 2) 2 (1, (n + 154))) fun f109 => h_t (h_u f109 (n + 162) (0, 2, [(2, 0), (2, 0), (2, 0), (2, 0), (2, 0), (2, 0), (2, 0), (0, 0), (0, 0), (0, 0), (0, 0), (0, 0)])) fun f112 => h_t (gX2_init (n + 163) f112 (n + 162)) fun f115 => h_t (h_p f115 (n + 2) 3 (1, (n + 162))) fun f118 => h_t (h_u f118 (n + 170) (0, 2, [(2, 0), (2, 0), (2, 0), (2, 0), (2, 0), (2, 0), (2, 0), (0, 0), (0, 0), (0, 0), (0, 0), (0, 0)])) fun f121 => h_t (gX2_init (n + 171) f121 (n + 170)) fun f124 => h_t (h_p f124 (n + 2) 4 (1, (n + 170))) fun f127 => h_t (h_u f127 (n + 178) (0, 2, [(2, 0), (2, 0), (2, 0), (2, 0), (2, 0), (2, 0), (2, 0), (0, 0), (0, 0), (0, 0), (0, 0), (0, 0)])) fun f130 => h_t (gX2_init (n + 179) f130 (n + 178)) fun f133 => h_t (h_p f133 (n + 2) 5 (1, (n + 178))) fun f136 => h_t (h_u f136 (n + 186) (0, 1, [(2, 0), (2, 0), (2, 0), (2, 0), (2, 0), (2, 0), (0, 0), (0, 0), (0, 0)])) fun f139 => h_t (gX1_init (n + 187) f139 (n + 186)) fun f142 => h_t (h_p f142 (n + 103) 0 (1, (n + 186))) fun f145 => h_t (h_u f145 (n + 265) (0, 1, [(2, 0), (2, 0), (2, 0), (2, 0), (2, 0), (2, 0), (0, 0), (0, 0), (0, 0)])) fun f148 => h_t (gX1_init (n + 266) f148 (n + 265)) fun f151 => h_t (h_p f151 (n + 103) 1 (1, (n + 265))) fun f154 => h_t (h_u f154 (n + 344) (0, 1, [(2, 0), (2, 0), (2, 0), (2, 0), (2, 0), (2, 0), (0, 0), (0, 0), (0, 0)])) fun f157 => h_t (gX1_init (n + 345) f157 (n + 344)) fun f160 => h_t (h_p f160 (n + 103) 2 (1, (n + 344))) fun f163 => h_t (h_u f163 (n + 423) (0, 1, [(2, 0), (2, 0), (2, 0), (2, 0), (2, 0), (2, 0), (0, 0), (0, 0), (0, 0)])) fun f166 => h_t (gX1_init (n + 424) f166 (n + 423)) fun f169 => h_t (h_p f169 (n + 103) 3 (1, (n + 423))) fun f172 => f172
set_option maxRecDepth 100000 in
set_option maxHeartbeats 8000000 in
theorem wX11_init {n a : Nat} {f f1 : FH} (hO : isO f n a 10) (hF : gX11_init n f a = f1) : h_K f n a f1 := by
  unfold gX11_init at hF
  obtain ⟨f1, h2, hF⟩ := h_tE hF
  have Oq3 : isO f1 (n + 1) a 10 := by rw [h2]; exact hO.new
  have Kq3 : h_K f n a f1 := by rw [h2]; exact (h_K.rf (f := f) (n := n) (a := a)).new (by omega) hO.1
  have F0h2 : isO f1 (n + 1) n 7 := by rw [h2]; exact isO.here rfl
  obtain ⟨f4, h5, hF⟩ := h_tE hF
  have Ch5 : h_K f1 (n + 1) n f4 := by rw [h5]; exact wX8_init F0h2 rfl
  have Oq6 : isO f4 (n + 2) a 10 := Oq3.call Ch5 (by omega)
  have Kq6 : h_K f n a f4 := Kq3.call Ch5 (by omega) (by omega) hO.1
  have Fq6_0 : isO f4 (n + 2) n 7 := F0h2.call Ch5 (by omega)
  obtain ⟨f7, h8, hF⟩ := h_tE hF
  have Oq9 : isO f7 (n + 2) a 10 := by rw [h8]; exact Oq6.put
  have Kq9 : h_K f n a f7 := by rw [h8]; exact Kq6.put
  have Fq9_1 : isO f7 (n + 2) n 7 := by rw [h8]; exact Fq6_0.put
  obtain ⟨f10, h11, hF⟩ := h_tE hF
  have Oq12 : isO f10 (n + 3) a 10 := by rw [h11]; exact Oq9.new
  have Kq12 : h_K f n a f10 := by rw [h11]; exact Kq9.new (by omega) hO.1
  have R0h11 : isR f10 (n + 3) (n + 2) 4 6 := by rw [h11]; exact isR.here (List.length_replicate ..)
  obtain ⟨f13, h14, hF⟩ := h_tE hF
  have Oq15 : isO f13 (n + 3) a 10 := by rw [h14]; exact Oq12.put
  have Kq15 : h_K f n a f13 := by rw [h14]; exact Kq12.put
  have Rq15_2 : isR f13 (n + 3) (n + 2) 4 6 := by rw [h14]; exact R0h11.put
  have G0h14 : h_g f13 a 1 (1, (n + 2)) := by rw [h14]; exact h_g.here Oq12 (by decide)
  obtain ⟨f16, h17, hF⟩ := h_tE hF
  have Oq18 : isO f16 (n + 4) a 10 := by rw [h17]; exact Oq15.new
  have Kq18 : h_K f n a f16 := by rw [h17]; exact Kq15.new (by omega) hO.1
  have Gq18_1 : h_g f16 a 1 (1, (n + 2)) := by rw [h17]; exact G0h14.new (by have := hO.1; omega)
  have Rq18_2 : isR f16 (n + 4) (n + 2) 4 6 := by rw [h17]; exact Rq15_2.new
  have F0h17 : isO f16 (n + 4) (n + 3) 2 := by rw [h17]; exact isO.here rfl
  obtain ⟨f19, h20, hF⟩ := h_tE hF
  have Ch20 : h_K f16 (n + 4) (n + 3) f19 := by rw [h20]; exact wX2_init F0h17 rfl
  have Oq21 : isO f19 (n + 11) a 10 := Oq18.call Ch20 (by omega)
  have Kq21 : h_K f n a f19 := Kq18.call Ch20 (by omega) (by omega) hO.1
  have Fq21_3 : isO f19 (n + 11) (n + 3) 2 := F0h17.call Ch20 (by omega)
  have Gq21_1 : h_g f19 a 1 (1, (n + 2)) := Gq18_1.call Ch20 Oq18.1 (by have := hO.1; omega)
  have Rq21_2 : isR f19 (n + 11) (n + 2) 4 6 := Rq18_2.call Ch20 (by omega)
  obtain ⟨f22, h23, hF⟩ := h_tE hF
  have Oq24 : isO f22 (n + 11) a 10 := by rw [h23]; exact Oq21.put
  have Kq24 : h_K f n a f22 := by rw [h23]; exact Kq21.put
  have Fq24_10 : isO f22 (n + 11) (n + 3) 2 := by rw [h23]; exact Fq21_3.put
  have Gq24_1 : h_g f22 a 1 (1, (n + 2)) := by rw [h23]; exact Gq21_1.other (by decide)
  have Rq24_2 : isR f22 (n + 11) (n + 2) 4 6 := by rw [h23]; exact Rq21_2.put
  obtain ⟨f25, h26, hF⟩ := h_tE hF
  have Oq27 : isO f25 (n + 12) a 10 := by rw [h26]; exact Oq24.new
  have Kq27 : h_K f n a f25 := by rw [h26]; exact Kq24.new (by omega) hO.1
  have Gq27_1 : h_g f25 a 1 (1, (n + 2)) := by rw [h26]; exact Gq24_1.new (by have := hO.1; omega)
  have Rq27_2 : isR f25 (n + 12) (n + 2) 4 6 := by rw [h26]; exact Rq24_2.new
  have F0h26 : isO f25 (n + 12) (n + 11) 5 := by rw [h26]; exact isO.here rfl
  obtain ⟨f28, h29, hF⟩ := h_tE hF
  have Ch29 : h_K f25 (n + 12) (n + 11) f28 := by rw [h29]; exact wX5_init F0h26 rfl
  have Oq30 : isO f28 (n + 24) a 10 := Oq27.call Ch29 (by omega)
  have Kq30 : h_K f n a f28 := Kq27.call Ch29 (by omega) (by omega) hO.1
  have Fq30_11 : isO f28 (n + 24) (n + 11) 5 := F0h26.call Ch29 (by omega)
  have Gq30_1 : h_g f28 a 1 (1, (n + 2)) := Gq27_1.call Ch29 Oq27.1 (by have := hO.1; omega)
  have Rq30_2 : isR f28 (n + 24) (n + 2) 4 6 := Rq27_2.call Ch29 (by omega)
  obtain ⟨f31, h32, hF⟩ := h_tE hF
  have Oq33 : isO f31 (n + 24) a 10 := by rw [h32]; exact Oq30.put
  have Kq33 : h_K f n a f31 := by rw [h32]; exact Kq30.put
  have Fq33_19 : isO f31 (n + 24) (n + 11) 5 := by rw [h32]; exact Fq30_11.put
  have Gq33_1 : h_g f31 a 1 (1, (n + 2)) := by rw [h32]; exact Gq30_1.other (by decide)
  have Rq33_2 : isR f31 (n + 24) (n + 2) 4 6 := by rw [h32]; exact Rq30_2.put
  obtain ⟨f34, h35, hF⟩ := h_tE hF
  have Oq36 : isO f34 (n + 25) a 10 := by rw [h35]; exact Oq33.new
  have Kq36 : h_K f n a f34 := by rw [h35]; exact Kq33.new (by omega) hO.1
  have Gq36_1 : h_g f34 a 1 (1, (n + 2)) := by rw [h35]; exact Gq33_1.new (by have := hO.1; omega)
  have Rq36_2 : isR f34 (n + 25) (n + 2) 4 6 := by rw [h35]; exact Rq33_2.new
  have F0h35 : isO f34 (n + 25) (n + 24) 1 := by rw [h35]; exact isO.here rfl
  obtain ⟨f37, h38, hF⟩ := h_tE hF
  have Ch38 : h_K f34 (n + 25) (n + 24) f37 := by rw [h38]; exact wX1_init F0h35 rfl
  have Oq39 : isO f37 (n + 103) a 10 := Oq36.call Ch38 (by omega)
  have Kq39 : h_K f n a f37 := Kq36.call Ch38 (by omega) (by omega) hO.1
  have Fq39_24 : isO f37 (n + 103) (n + 24) 1 := F0h35.call Ch38 (by omega)
  have Gq39_1 : h_g f37 a 1 (1, (n + 2)) := Gq36_1.call Ch38 Oq36.1 (by have := hO.1; omega)
  have Rq39_2 : isR f37 (n + 103) (n + 2) 4 6 := Rq36_2.call Ch38 (by omega)
  obtain ⟨f40, h41, hF⟩ := h_tE hF
  have Oq42 : isO f40 (n + 103) a 10 := by rw [h41]; exact Oq39.put
  have Kq42 : h_K f n a f40 := by rw [h41]; exact Kq39.put
  have Fq42_32 : isO f40 (n + 103) (n + 24) 1 := by rw [h41]; exact Fq39_24.put
  have Gq42_1 : h_g f40 a 1 (1, (n + 2)) := by rw [h41]; exact Gq39_1.other (by decide)
  have Rq42_2 : isR f40 (n + 103) (n + 2) 4 6 := by rw [h41]; exact Rq39_2.put
  obtain ⟨f43, h44, hF⟩ := h_tE hF
  have Oq45 : isO f43 (n + 104) a 10 := by rw [h44]; exact Oq42.new
  have Kq45 : h_K f n a f43 := by rw [h44]; exact Kq42.new (by omega) hO.1
  have Gq45_1 : h_g f43 a 1 (1, (n + 2)) := by rw [h44]; exact Gq42_1.new (by have := hO.1; omega)
  have Rq45_2 : isR f43 (n + 104) (n + 2) 4 6 := by rw [h44]; exact Rq42_2.new
  have R0h44 : isR f43 (n + 104) (n + 103) 6 4 := by rw [h44]; exact isR.here (List.length_replicate ..)
  obtain ⟨f46, h47, hF⟩ := h_tE hF
  have Oq48 : isO f46 (n + 104) a 10 := by rw [h47]; exact Oq45.put
  have Kq48 : h_K f n a f46 := by rw [h47]; exact Kq45.put
  have Gq48_1 : h_g f46 a 1 (1, (n + 2)) := by rw [h47]; exact Gq45_1.other (by decide)
  have Rq48_2 : isR f46 (n + 104) (n + 2) 4 6 := by rw [h47]; exact Rq45_2.put
  have Rq48_103 : isR f46 (n + 104) (n + 103) 6 4 := by rw [h47]; exact R0h44.put
  have G0h47 : h_g f46 a 5 (1, (n + 103)) := by rw [h47]; exact h_g.here Oq45 (by decide)
  obtain ⟨f49, h50, hF⟩ := h_tE hF
  have Oq51 : isO f49 (n + 105) a 10 := by rw [h50]; exact Oq48.new
  have Kq51 : h_K f n a f49 := by rw [h50]; exact Kq48.new (by omega) hO.1
  have Gq51_1 : h_g f49 a 1 (1, (n + 2)) := by rw [h50]; exact Gq48_1.new (by have := hO.1; omega)
  have Gq51_5 : h_g f49 a 5 (1, (n + 103)) := by rw [h50]; exact G0h47.new (by have := hO.1; omega)
  have Rq51_2 : isR f49 (n + 105) (n + 2) 4 6 := by rw [h50]; exact Rq48_2.new
  have Rq51_103 : isR f49 (n + 105) (n + 103) 6 4 := by rw [h50]; exact Rq48_103.new
  have F0h50 : isO f49 (n + 105) (n + 104) 6 := by rw [h50]; exact isO.here rfl
  obtain ⟨f52, h53, hF⟩ := h_tE hF
  have Ch53 : h_K f49 (n + 105) (n + 104) f52 := by rw [h53]; exact wX6_init F0h50 rfl
  have Oq54 : isO f52 (n + 106) a 10 := Oq51.call Ch53 (by omega)
  have Kq54 : h_K f n a f52 := Kq51.call Ch53 (by omega) (by omega) hO.1
  have Fq54_104 : isO f52 (n + 106) (n + 104) 6 := F0h50.call Ch53 (by omega)
  have Gq54_1 : h_g f52 a 1 (1, (n + 2)) := Gq51_1.call Ch53 Oq51.1 (by have := hO.1; omega)
  have Gq54_5 : h_g f52 a 5 (1, (n + 103)) := Gq51_5.call Ch53 Oq51.1 (by have := hO.1; omega)
  have Rq54_2 : isR f52 (n + 106) (n + 2) 4 6 := Rq51_2.call Ch53 (by omega)
  have Rq54_103 : isR f52 (n + 106) (n + 103) 6 4 := Rq51_103.call Ch53 (by omega)
  obtain ⟨f55, h56, hF⟩ := h_tE hF
  have Oq57 : isO f55 (n + 106) a 10 := by rw [h56]; exact Oq54.put
  have Kq57 : h_K f n a f55 := by rw [h56]; exact Kq54.put
  have Fq57_113 : isO f55 (n + 106) (n + 104) 6 := by rw [h56]; exact Fq54_104.put
  have Gq57_1 : h_g f55 a 1 (1, (n + 2)) := by rw [h56]; exact Gq54_1.other (by decide)
  have Gq57_5 : h_g f55 a 5 (1, (n + 103)) := by rw [h56]; exact Gq54_5.other (by decide)
  have Rq57_2 : isR f55 (n + 106) (n + 2) 4 6 := by rw [h56]; exact Rq54_2.put
  have Rq57_103 : isR f55 (n + 106) (n + 103) 6 4 := by rw [h56]; exact Rq54_103.put
  obtain ⟨f58, h59, hF⟩ := h_tE hF
  have Oq60 : isO f58 (n + 107) a 10 := by rw [h59]; exact Oq57.new
  have Kq60 : h_K f n a f58 := by rw [h59]; exact Kq57.new (by omega) hO.1
  have Gq60_1 : h_g f58 a 1 (1, (n + 2)) := by rw [h59]; exact Gq57_1.new (by have := hO.1; omega)
  have Gq60_5 : h_g f58 a 5 (1, (n + 103)) := by rw [h59]; exact Gq57_5.new (by have := hO.1; omega)
  have Rq60_2 : isR f58 (n + 107) (n + 2) 4 6 := by rw [h59]; exact Rq57_2.new
  have Rq60_103 : isR f58 (n + 107) (n + 103) 6 4 := by rw [h59]; exact Rq57_103.new
  have F0h59 : isO f58 (n + 107) (n + 106) 0 := by rw [h59]; exact isO.here rfl
  obtain ⟨f61, h62, hF⟩ := h_tE hF
  have Ch62 : h_K f58 (n + 107) (n + 106) f61 := by rw [h62]; exact wX0_init F0h59 rfl
  have Oq63 : isO f61 (n + 129) a 10 := Oq60.call Ch62 (by omega)
  have Kq63 : h_K f n a f61 := Kq60.call Ch62 (by omega) (by omega) hO.1
  have Fq63_106 : isO f61 (n + 129) (n + 106) 0 := F0h59.call Ch62 (by omega)
  have Gq63_1 : h_g f61 a 1 (1, (n + 2)) := Gq60_1.call Ch62 Oq60.1 (by have := hO.1; omega)
  have Gq63_5 : h_g f61 a 5 (1, (n + 103)) := Gq60_5.call Ch62 Oq60.1 (by have := hO.1; omega)
  have Rq63_2 : isR f61 (n + 129) (n + 2) 4 6 := Rq60_2.call Ch62 (by omega)
  have Rq63_103 : isR f61 (n + 129) (n + 103) 6 4 := Rq60_103.call Ch62 (by omega)
  obtain ⟨f64, h65, hF⟩ := h_tE hF
  have Oq66 : isO f64 (n + 129) a 10 := by rw [h65]; exact Oq63.put
  have Kq66 : h_K f n a f64 := by rw [h65]; exact Kq63.put
  have Fq66_115 : isO f64 (n + 129) (n + 106) 0 := by rw [h65]; exact Fq63_106.put
  have Gq66_1 : h_g f64 a 1 (1, (n + 2)) := by rw [h65]; exact Gq63_1.other (by decide)
  have Gq66_5 : h_g f64 a 5 (1, (n + 103)) := by rw [h65]; exact Gq63_5.other (by decide)
  have Rq66_2 : isR f64 (n + 129) (n + 2) 4 6 := by rw [h65]; exact Rq63_2.put
  have Rq66_103 : isR f64 (n + 129) (n + 103) 6 4 := by rw [h65]; exact Rq63_103.put
  obtain ⟨f67, h68, hF⟩ := h_tE hF
  have Oq69 : isO f67 (n + 130) a 10 := by rw [h68]; exact Oq66.new
  have Kq69 : h_K f n a f67 := by rw [h68]; exact Kq66.new (by omega) hO.1
  have Gq69_1 : h_g f67 a 1 (1, (n + 2)) := by rw [h68]; exact Gq66_1.new (by have := hO.1; omega)
  have Gq69_5 : h_g f67 a 5 (1, (n + 103)) := by rw [h68]; exact Gq66_5.new (by have := hO.1; omega)
  have Rq69_2 : isR f67 (n + 130) (n + 2) 4 6 := by rw [h68]; exact Rq66_2.new
  have Rq69_103 : isR f67 (n + 130) (n + 103) 6 4 := by rw [h68]; exact Rq66_103.new
  have F0h68 : isO f67 (n + 130) (n + 129) 3 := by rw [h68]; exact isO.here rfl
  obtain ⟨f70, h71, hF⟩ := h_tE hF
  have Ch71 : h_K f67 (n + 130) (n + 129) f70 := by rw [h71]; exact wX3_init F0h68 rfl
  have Oq72 : isO f70 (n + 131) a 10 := Oq69.call Ch71 (by omega)
  have Kq72 : h_K f n a f70 := Kq69.call Ch71 (by omega) (by omega) hO.1
  have Fq72_129 : isO f70 (n + 131) (n + 129) 3 := F0h68.call Ch71 (by omega)
  have Gq72_1 : h_g f70 a 1 (1, (n + 2)) := Gq69_1.call Ch71 Oq69.1 (by have := hO.1; omega)
  have Gq72_5 : h_g f70 a 5 (1, (n + 103)) := Gq69_5.call Ch71 Oq69.1 (by have := hO.1; omega)
  have Rq72_2 : isR f70 (n + 131) (n + 2) 4 6 := Rq69_2.call Ch71 (by omega)
  have Rq72_103 : isR f70 (n + 131) (n + 103) 6 4 := Rq69_103.call Ch71 (by omega)
  obtain ⟨f73, h74, hF⟩ := h_tE hF
  have Oq75 : isO f73 (n + 131) a 10 := by rw [h74]; exact Oq72.put
  have Kq75 : h_K f n a f73 := by rw [h74]; exact Kq72.put
  have Fq75_138 : isO f73 (n + 131) (n + 129) 3 := by rw [h74]; exact Fq72_129.put
  have Gq75_1 : h_g f73 a 1 (1, (n + 2)) := by rw [h74]; exact Gq72_1.other (by decide)
  have Gq75_5 : h_g f73 a 5 (1, (n + 103)) := by rw [h74]; exact Gq72_5.other (by decide)
  have Rq75_2 : isR f73 (n + 131) (n + 2) 4 6 := by rw [h74]; exact Rq72_2.put
  have Rq75_103 : isR f73 (n + 131) (n + 103) 6 4 := by rw [h74]; exact Rq72_103.put
  obtain ⟨f76, h77, hF⟩ := h_tE hF
  have Oq78 : isO f76 (n + 132) a 10 := by rw [h77]; exact Oq75.new
  have Kq78 : h_K f n a f76 := by rw [h77]; exact Kq75.new (by omega) hO.1
  have Gq78_1 : h_g f76 a 1 (1, (n + 2)) := by rw [h77]; exact Gq75_1.new (by have := hO.1; omega)
  have Gq78_5 : h_g f76 a 5 (1, (n + 103)) := by rw [h77]; exact Gq75_5.new (by have := hO.1; omega)
  have Rq78_2 : isR f76 (n + 132) (n + 2) 4 6 := by rw [h77]; exact Rq75_2.new
  have Rq78_103 : isR f76 (n + 132) (n + 103) 6 4 := by rw [h77]; exact Rq75_103.new
  have F0h77 : isO f76 (n + 132) (n + 131) 9 := by rw [h77]; exact isO.here rfl
  obtain ⟨f79, h80, hF⟩ := h_tE hF
  have Ch80 : h_K f76 (n + 132) (n + 131) f79 := by rw [h80]; exact wX10_init F0h77 rfl
  have Oq81 : isO f79 (n + 138) a 10 := Oq78.call Ch80 (by omega)
  have Kq81 : h_K f n a f79 := Kq78.call Ch80 (by omega) (by omega) hO.1
  have Fq81_131 : isO f79 (n + 138) (n + 131) 9 := F0h77.call Ch80 (by omega)
  have Gq81_1 : h_g f79 a 1 (1, (n + 2)) := Gq78_1.call Ch80 Oq78.1 (by have := hO.1; omega)
  have Gq81_5 : h_g f79 a 5 (1, (n + 103)) := Gq78_5.call Ch80 Oq78.1 (by have := hO.1; omega)
  have Rq81_2 : isR f79 (n + 138) (n + 2) 4 6 := Rq78_2.call Ch80 (by omega)
  have Rq81_103 : isR f79 (n + 138) (n + 103) 6 4 := Rq78_103.call Ch80 (by omega)
  obtain ⟨f82, h83, hF⟩ := h_tE hF
  have Oq84 : isO f82 (n + 138) a 10 := by rw [h83]; exact Oq81.put
  have Kq84 : h_K f n a f82 := by rw [h83]; exact Kq81.put
  have Fq84_140 : isO f82 (n + 138) (n + 131) 9 := by rw [h83]; exact Fq81_131.put
  have Gq84_1 : h_g f82 a 1 (1, (n + 2)) := by rw [h83]; exact Gq81_1.other (by decide)
  have Gq84_5 : h_g f82 a 5 (1, (n + 103)) := by rw [h83]; exact Gq81_5.other (by decide)
  have Rq84_2 : isR f82 (n + 138) (n + 2) 4 6 := by rw [h83]; exact Rq81_2.put
  have Rq84_103 : isR f82 (n + 138) (n + 103) 6 4 := by rw [h83]; exact Rq81_103.put
  obtain ⟨f85, h86, hF⟩ := h_tE hF
  have Oq87 : isO f85 (n + 139) a 10 := by rw [h86]; exact Oq84.new
  have Kq87 : h_K f n a f85 := by rw [h86]; exact Kq84.new (by omega) hO.1
  have Gq87_1 : h_g f85 a 1 (1, (n + 2)) := by rw [h86]; exact Gq84_1.new (by have := hO.1; omega)
  have Gq87_5 : h_g f85 a 5 (1, (n + 103)) := by rw [h86]; exact Gq84_5.new (by have := hO.1; omega)
  have Rq87_2 : isR f85 (n + 139) (n + 2) 4 6 := by rw [h86]; exact Rq84_2.new
  have Rq87_103 : isR f85 (n + 139) (n + 103) 6 4 := by rw [h86]; exact Rq84_103.new
  have F0h86 : isO f85 (n + 139) (n + 138) 2 := by rw [h86]; exact isO.here rfl
  obtain ⟨f88, h89, hF⟩ := h_tE hF
  have Ch89 : h_K f85 (n + 139) (n + 138) f88 := by rw [h89]; exact wX2_init F0h86 rfl
  have Oq90 : isO f88 (n + 146) a 10 := Oq87.call Ch89 (by omega)
  have Kq90 : h_K f n a f88 := Kq87.call Ch89 (by omega) (by omega) hO.1
  have Fq90_138 : isO f88 (n + 146) (n + 138) 2 := F0h86.call Ch89 (by omega)
  have Gq90_1 : h_g f88 a 1 (1, (n + 2)) := Gq87_1.call Ch89 Oq87.1 (by have := hO.1; omega)
  have Gq90_5 : h_g f88 a 5 (1, (n + 103)) := Gq87_5.call Ch89 Oq87.1 (by have := hO.1; omega)
  have Rq90_2 : isR f88 (n + 146) (n + 2) 4 6 := Rq87_2.call Ch89 (by omega)
  have Rq90_103 : isR f88 (n + 146) (n + 103) 6 4 := Rq87_103.call Ch89 (by omega)
  obtain ⟨f91, h92, hF⟩ := h_tE hF
  have Oq93 : isO f91 (n + 146) a 10 := by rw [h92]; exact Oq90.put
  have Kq93 : h_K f n a f91 := by rw [h92]; exact Kq90.far (by omega) hO.1
  have Fq93_147 : isO f91 (n + 146) (n + 138) 2 := by rw [h92]; exact Fq90_138.put
  have Gq93_1 : h_g f91 a 1 (1, (n + 2)) := by rw [h92]; exact Gq90_1.far (by have := hO.1; omega)
  have Gq93_5 : h_g f91 a 5 (1, (n + 103)) := by rw [h92]; exact Gq90_5.far (by have := hO.1; omega)
  have Rq93_2 : isR f91 (n + 146) (n + 2) 4 6 := by rw [h92]; exact Rq90_2.put
  have Rq93_103 : isR f91 (n + 146) (n + 103) 6 4 := by rw [h92]; exact Rq90_103.put
  obtain ⟨f94, h95, hF⟩ := h_tE hF
  have Oq96 : isO f94 (n + 147) a 10 := by rw [h95]; exact Oq93.new
  have Kq96 : h_K f n a f94 := by rw [h95]; exact Kq93.new (by omega) hO.1
  have Gq96_1 : h_g f94 a 1 (1, (n + 2)) := by rw [h95]; exact Gq93_1.new (by have := hO.1; omega)
  have Gq96_5 : h_g f94 a 5 (1, (n + 103)) := by rw [h95]; exact Gq93_5.new (by have := hO.1; omega)
  have Rq96_2 : isR f94 (n + 147) (n + 2) 4 6 := by rw [h95]; exact Rq93_2.new
  have Rq96_103 : isR f94 (n + 147) (n + 103) 6 4 := by rw [h95]; exact Rq93_103.new
  have F0h95 : isO f94 (n + 147) (n + 146) 2 := by rw [h95]; exact isO.here rfl
  obtain ⟨f97, h98, hF⟩ := h_tE hF
  have Ch98 : h_K f94 (n + 147) (n + 146) f97 := by rw [h98]; exact wX2_init F0h95 rfl
  have Oq99 : isO f97 (n + 154) a 10 := Oq96.call Ch98 (by omega)
  have Kq99 : h_K f n a f97 := Kq96.call Ch98 (by omega) (by omega) hO.1
  have Fq99_146 : isO f97 (n + 154) (n + 146) 2 := F0h95.call Ch98 (by omega)
  have Gq99_1 : h_g f97 a 1 (1, (n + 2)) := Gq96_1.call Ch98 Oq96.1 (by have := hO.1; omega)
  have Gq99_5 : h_g f97 a 5 (1, (n + 103)) := Gq96_5.call Ch98 Oq96.1 (by have := hO.1; omega)
  have Rq99_2 : isR f97 (n + 154) (n + 2) 4 6 := Rq96_2.call Ch98 (by omega)
  have Rq99_103 : isR f97 (n + 154) (n + 103) 6 4 := Rq96_103.call Ch98 (by omega)
  obtain ⟨f100, h101, hF⟩ := h_tE hF
  have Oq102 : isO f100 (n + 154) a 10 := by rw [h101]; exact Oq99.put
  have Kq102 : h_K f n a f100 := by rw [h101]; exact Kq99.far (by omega) hO.1
  have Fq102_155 : isO f100 (n + 154) (n + 146) 2 := by rw [h101]; exact Fq99_146.put
  have Gq102_1 : h_g f100 a 1 (1, (n + 2)) := by rw [h101]; exact Gq99_1.far (by have := hO.1; omega)
  have Gq102_5 : h_g f100 a 5 (1, (n + 103)) := by rw [h101]; exact Gq99_5.far (by have := hO.1; omega)
  have Rq102_2 : isR f100 (n + 154) (n + 2) 4 6 := by rw [h101]; exact Rq99_2.put
  have Rq102_103 : isR f100 (n + 154) (n + 103) 6 4 := by rw [h101]; exact Rq99_103.put
  obtain ⟨f103, h104, hF⟩ := h_tE hF
  have Oq105 : isO f103 (n + 155) a 10 := by rw [h104]; exact Oq102.new
  have Kq105 : h_K f n a f103 := by rw [h104]; exact Kq102.new (by omega) hO.1
  have Gq105_1 : h_g f103 a 1 (1, (n + 2)) := by rw [h104]; exact Gq102_1.new (by have := hO.1; omega)
  have Gq105_5 : h_g f103 a 5 (1, (n + 103)) := by rw [h104]; exact Gq102_5.new (by have := hO.1; omega)
  have Rq105_2 : isR f103 (n + 155) (n + 2) 4 6 := by rw [h104]; exact Rq102_2.new
  have Rq105_103 : isR f103 (n + 155) (n + 103) 6 4 := by rw [h104]; exact Rq102_103.new
  have F0h104 : isO f103 (n + 155) (n + 154) 2 := by rw [h104]; exact isO.here rfl
  obtain ⟨f106, h107, hF⟩ := h_tE hF
  have Ch107 : h_K f103 (n + 155) (n + 154) f106 := by rw [h107]; exact wX2_init F0h104 rfl
  have Oq108 : isO f106 (n + 162) a 10 := Oq105.call Ch107 (by omega)
  have Kq108 : h_K f n a f106 := Kq105.call Ch107 (by omega) (by omega) hO.1
  have Fq108_154 : isO f106 (n + 162) (n + 154) 2 := F0h104.call Ch107 (by omega)
  have Gq108_1 : h_g f106 a 1 (1, (n + 2)) := Gq105_1.call Ch107 Oq105.1 (by have := hO.1; omega)
  have Gq108_5 : h_g f106 a 5 (1, (n + 103)) := Gq105_5.call Ch107 Oq105.1 (by have := hO.1; omega)
  have Rq108_2 : isR f106 (n + 162) (n + 2) 4 6 := Rq105_2.call Ch107 (by omega)
  have Rq108_103 : isR f106 (n + 162) (n + 103) 6 4 := Rq105_103.call Ch107 (by omega)
  obtain ⟨f109, h110, hF⟩ := h_tE hF
  have Oq111 : isO f109 (n + 162) a 10 := by rw [h110]; exact Oq108.put
  have Kq111 : h_K f n a f109 := by rw [h110]; exact Kq108.far (by omega) hO.1
  have Fq111_163 : isO f109 (n + 162) (n + 154) 2 := by rw [h110]; exact Fq108_154.put
  have Gq111_1 : h_g f109 a 1 (1, (n + 2)) := by rw [h110]; exact Gq108_1.far (by have := hO.1; omega)
  have Gq111_5 : h_g f109 a 5 (1, (n + 103)) := by rw [h110]; exact Gq108_5.far (by have := hO.1; omega)
  have Rq111_2 : isR f109 (n + 162) (n + 2) 4 6 := by rw [h110]; exact Rq108_2.put
  have Rq111_103 : isR f109 (n + 162) (n + 103) 6 4 := by rw [h110]; exact Rq108_103.put
  obtain ⟨f112, h113, hF⟩ := h_tE hF
  have Oq114 : isO f112 (n + 163) a 10 := by rw [h113]; exact Oq111.new
  have Kq114 : h_K f n a f112 := by rw [h113]; exact Kq111.new (by omega) hO.1
  have Gq114_1 : h_g f112 a 1 (1, (n + 2)) := by rw [h113]; exact Gq111_1.new (by have := hO.1; omega)
  have Gq114_5 : h_g f112 a 5 (1, (n + 103)) := by rw [h113]; exact Gq111_5.new (by have := hO.1; omega)
  have Rq114_2 : isR f112 (n + 163) (n + 2) 4 6 := by rw [h113]; exact Rq111_2.new
  have Rq114_103 : isR f112 (n + 163) (n + 103) 6 4 := by rw [h113]; exact Rq111_103.new
  have F0h113 : isO f112 (n + 163) (n + 162) 2 := by rw [h113]; exact isO.here rfl
  obtain ⟨f115, h116, hF⟩ := h_tE hF
  have Ch116 : h_K f112 (n + 163) (n + 162) f115 := by rw [h116]; exact wX2_init F0h113 rfl
  have Oq117 : isO f115 (n + 170) a 10 := Oq114.call Ch116 (by omega)
  have Kq117 : h_K f n a f115 := Kq114.call Ch116 (by omega) (by omega) hO.1
  have Fq117_162 : isO f115 (n + 170) (n + 162) 2 := F0h113.call Ch116 (by omega)
  have Gq117_1 : h_g f115 a 1 (1, (n + 2)) := Gq114_1.call Ch116 Oq114.1 (by have := hO.1; omega)
  have Gq117_5 : h_g f115 a 5 (1, (n + 103)) := Gq114_5.call Ch116 Oq114.1 (by have := hO.1; omega)
  have Rq117_2 : isR f115 (n + 170) (n + 2) 4 6 := Rq114_2.call Ch116 (by omega)
  have Rq117_103 : isR f115 (n + 170) (n + 103) 6 4 := Rq114_103.call Ch116 (by omega)
  obtain ⟨f118, h119, hF⟩ := h_tE hF
  have Oq120 : isO f118 (n + 170) a 10 := by rw [h119]; exact Oq117.put
  have Kq120 : h_K f n a f118 := by rw [h119]; exact Kq117.far (by omega) hO.1
  have Fq120_171 : isO f118 (n + 170) (n + 162) 2 := by rw [h119]; exact Fq117_162.put
  have Gq120_1 : h_g f118 a 1 (1, (n + 2)) := by rw [h119]; exact Gq117_1.far (by have := hO.1; omega)
  have Gq120_5 : h_g f118 a 5 (1, (n + 103)) := by rw [h119]; exact Gq117_5.far (by have := hO.1; omega)
  have Rq120_2 : isR f118 (n + 170) (n + 2) 4 6 := by rw [h119]; exact Rq117_2.put
  have Rq120_103 : isR f118 (n + 170) (n + 103) 6 4 := by rw [h119]; exact Rq117_103.put
  obtain ⟨f121, h122, hF⟩ := h_tE hF
  have Oq123 : isO f121 (n + 171) a 10 := by rw [h122]; exact Oq120.new
  have Kq123 : h_K f n a f121 := by rw [h122]; exact Kq120.new (by omega) hO.1
  have Gq123_1 : h_g f121 a 1 (1, (n + 2)) := by rw [h122]; exact Gq120_1.new (by have := hO.1; omega)
  have Gq123_5 : h_g f121 a 5 (1, (n + 103)) := by rw [h122]; exact Gq120_5.new (by have := hO.1; omega)
  have Rq123_2 : isR f121 (n + 171) (n + 2) 4 6 := by rw [h122]; exact Rq120_2.new
  have Rq123_103 : isR f121 (n + 171) (n + 103) 6 4 := by rw [h122]; exact Rq120_103.new
  have F0h122 : isO f121 (n + 171) (n + 170) 2 := by rw [h122]; exact isO.here rfl
  obtain ⟨f124, h125, hF⟩ := h_tE hF
  have Ch125 : h_K f121 (n + 171) (n + 170) f124 := by rw [h125]; exact wX2_init F0h122 rfl
  have Oq126 : isO f124 (n + 178) a 10 := Oq123.call Ch125 (by omega)
  have Kq126 : h_K f n a f124 := Kq123.call Ch125 (by omega) (by omega) hO.1
  have Fq126_170 : isO f124 (n + 178) (n + 170) 2 := F0h122.call Ch125 (by omega)
  have Gq126_1 : h_g f124 a 1 (1, (n + 2)) := Gq123_1.call Ch125 Oq123.1 (by have := hO.1; omega)
  have Gq126_5 : h_g f124 a 5 (1, (n + 103)) := Gq123_5.call Ch125 Oq123.1 (by have := hO.1; omega)
  have Rq126_2 : isR f124 (n + 178) (n + 2) 4 6 := Rq123_2.call Ch125 (by omega)
  have Rq126_103 : isR f124 (n + 178) (n + 103) 6 4 := Rq123_103.call Ch125 (by omega)
  obtain ⟨f127, h128, hF⟩ := h_tE hF
  have Oq129 : isO f127 (n + 178) a 10 := by rw [h128]; exact Oq126.put
  have Kq129 : h_K f n a f127 := by rw [h128]; exact Kq126.far (by omega) hO.1
  have Fq129_179 : isO f127 (n + 178) (n + 170) 2 := by rw [h128]; exact Fq126_170.put
  have Gq129_1 : h_g f127 a 1 (1, (n + 2)) := by rw [h128]; exact Gq126_1.far (by have := hO.1; omega)
  have Gq129_5 : h_g f127 a 5 (1, (n + 103)) := by rw [h128]; exact Gq126_5.far (by have := hO.1; omega)
  have Rq129_2 : isR f127 (n + 178) (n + 2) 4 6 := by rw [h128]; exact Rq126_2.put
  have Rq129_103 : isR f127 (n + 178) (n + 103) 6 4 := by rw [h128]; exact Rq126_103.put
  obtain ⟨f130, h131, hF⟩ := h_tE hF
  have Oq132 : isO f130 (n + 179) a 10 := by rw [h131]; exact Oq129.new
  have Kq132 : h_K f n a f130 := by rw [h131]; exact Kq129.new (by omega) hO.1
  have Gq132_1 : h_g f130 a 1 (1, (n + 2)) := by rw [h131]; exact Gq129_1.new (by have := hO.1; omega)
  have Gq132_5 : h_g f130 a 5 (1, (n + 103)) := by rw [h131]; exact Gq129_5.new (by have := hO.1; omega)
  have Rq132_2 : isR f130 (n + 179) (n + 2) 4 6 := by rw [h131]; exact Rq129_2.new
  have Rq132_103 : isR f130 (n + 179) (n + 103) 6 4 := by rw [h131]; exact Rq129_103.new
  have F0h131 : isO f130 (n + 179) (n + 178) 2 := by rw [h131]; exact isO.here rfl
  obtain ⟨f133, h134, hF⟩ := h_tE hF
  have Ch134 : h_K f130 (n + 179) (n + 178) f133 := by rw [h134]; exact wX2_init F0h131 rfl
  have Oq135 : isO f133 (n + 186) a 10 := Oq132.call Ch134 (by omega)
  have Kq135 : h_K f n a f133 := Kq132.call Ch134 (by omega) (by omega) hO.1
  have Fq135_178 : isO f133 (n + 186) (n + 178) 2 := F0h131.call Ch134 (by omega)
  have Gq135_1 : h_g f133 a 1 (1, (n + 2)) := Gq132_1.call Ch134 Oq132.1 (by have := hO.1; omega)
  have Gq135_5 : h_g f133 a 5 (1, (n + 103)) := Gq132_5.call Ch134 Oq132.1 (by have := hO.1; omega)
  have Rq135_2 : isR f133 (n + 186) (n + 2) 4 6 := Rq132_2.call Ch134 (by omega)
  have Rq135_103 : isR f133 (n + 186) (n + 103) 6 4 := Rq132_103.call Ch134 (by omega)
  obtain ⟨f136, h137, hF⟩ := h_tE hF
  have Oq138 : isO f136 (n + 186) a 10 := by rw [h137]; exact Oq135.put
  have Kq138 : h_K f n a f136 := by rw [h137]; exact Kq135.far (by omega) hO.1
  have Fq138_187 : isO f136 (n + 186) (n + 178) 2 := by rw [h137]; exact Fq135_178.put
  have Gq138_1 : h_g f136 a 1 (1, (n + 2)) := by rw [h137]; exact Gq135_1.far (by have := hO.1; omega)
  have Gq138_5 : h_g f136 a 5 (1, (n + 103)) := by rw [h137]; exact Gq135_5.far (by have := hO.1; omega)
  have Rq138_2 : isR f136 (n + 186) (n + 2) 4 6 := by rw [h137]; exact Rq135_2.put
  have Rq138_103 : isR f136 (n + 186) (n + 103) 6 4 := by rw [h137]; exact Rq135_103.put
  obtain ⟨f139, h140, hF⟩ := h_tE hF
  have Oq141 : isO f139 (n + 187) a 10 := by rw [h140]; exact Oq138.new
  have Kq141 : h_K f n a f139 := by rw [h140]; exact Kq138.new (by omega) hO.1
  have Gq141_1 : h_g f139 a 1 (1, (n + 2)) := by rw [h140]; exact Gq138_1.new (by have := hO.1; omega)
  have Gq141_5 : h_g f139 a 5 (1, (n + 103)) := by rw [h140]; exact Gq138_5.new (by have := hO.1; omega)
  have Rq141_2 : isR f139 (n + 187) (n + 2) 4 6 := by rw [h140]; exact Rq138_2.new
  have Rq141_103 : isR f139 (n + 187) (n + 103) 6 4 := by rw [h140]; exact Rq138_103.new
  have F0h140 : isO f139 (n + 187) (n + 186) 1 := by rw [h140]; exact isO.here rfl
  obtain ⟨f142, h143, hF⟩ := h_tE hF
  have Ch143 : h_K f139 (n + 187) (n + 186) f142 := by rw [h143]; exact wX1_init F0h140 rfl
  have Oq144 : isO f142 (n + 265) a 10 := Oq141.call Ch143 (by omega)
  have Kq144 : h_K f n a f142 := Kq141.call Ch143 (by omega) (by omega) hO.1
  have Fq144_186 : isO f142 (n + 265) (n + 186) 1 := F0h140.call Ch143 (by omega)
  have Gq144_1 : h_g f142 a 1 (1, (n + 2)) := Gq141_1.call Ch143 Oq141.1 (by have := hO.1; omega)
  have Gq144_5 : h_g f142 a 5 (1, (n + 103)) := Gq141_5.call Ch143 Oq141.1 (by have := hO.1; omega)
  have Rq144_2 : isR f142 (n + 265) (n + 2) 4 6 := Rq141_2.call Ch143 (by omega)
  have Rq144_103 : isR f142 (n + 265) (n + 103) 6 4 := Rq141_103.call Ch143 (by omega)
  obtain ⟨f145, h146, hF⟩ := h_tE hF
  have Oq147 : isO f145 (n + 265) a 10 := by rw [h146]; exact Oq144.put
  have Kq147 : h_K f n a f145 := by rw [h146]; exact Kq144.far (by omega) hO.1
  have Fq147_195 : isO f145 (n + 265) (n + 186) 1 := by rw [h146]; exact Fq144_186.put
  have Gq147_1 : h_g f145 a 1 (1, (n + 2)) := by rw [h146]; exact Gq144_1.far (by have := hO.1; omega)
  have Gq147_5 : h_g f145 a 5 (1, (n + 103)) := by rw [h146]; exact Gq144_5.far (by have := hO.1; omega)
  have Rq147_2 : isR f145 (n + 265) (n + 2) 4 6 := by rw [h146]; exact Rq144_2.put
  have Rq147_103 : isR f145 (n + 265) (n + 103) 6 4 := by rw [h146]; exact Rq144_103.put
  obtain ⟨f148, h149, hF⟩ := h_tE hF
  have Oq150 : isO f148 (n + 266) a 10 := by rw [h149]; exact Oq147.new
  have Kq150 : h_K f n a f148 := by rw [h149]; exact Kq147.new (by omega) hO.1
  have Gq150_1 : h_g f148 a 1 (1, (n + 2)) := by rw [h149]; exact Gq147_1.new (by have := hO.1; omega)
  have Gq150_5 : h_g f148 a 5 (1, (n + 103)) := by rw [h149]; exact Gq147_5.new (by have := hO.1; omega)
  have Rq150_2 : isR f148 (n + 266) (n + 2) 4 6 := by rw [h149]; exact Rq147_2.new
  have Rq150_103 : isR f148 (n + 266) (n + 103) 6 4 := by rw [h149]; exact Rq147_103.new
  have F0h149 : isO f148 (n + 266) (n + 265) 1 := by rw [h149]; exact isO.here rfl
  obtain ⟨f151, h152, hF⟩ := h_tE hF
  have Ch152 : h_K f148 (n + 266) (n + 265) f151 := by rw [h152]; exact wX1_init F0h149 rfl
  have Oq153 : isO f151 (n + 344) a 10 := Oq150.call Ch152 (by omega)
  have Kq153 : h_K f n a f151 := Kq150.call Ch152 (by omega) (by omega) hO.1
  have Fq153_265 : isO f151 (n + 344) (n + 265) 1 := F0h149.call Ch152 (by omega)
  have Gq153_1 : h_g f151 a 1 (1, (n + 2)) := Gq150_1.call Ch152 Oq150.1 (by have := hO.1; omega)
  have Gq153_5 : h_g f151 a 5 (1, (n + 103)) := Gq150_5.call Ch152 Oq150.1 (by have := hO.1; omega)
  have Rq153_2 : isR f151 (n + 344) (n + 2) 4 6 := Rq150_2.call Ch152 (by omega)
  have Rq153_103 : isR f151 (n + 344) (n + 103) 6 4 := Rq150_103.call Ch152 (by omega)
  obtain ⟨f154, h155, hF⟩ := h_tE hF
  have Oq156 : isO f154 (n + 344) a 10 := by rw [h155]; exact Oq153.put
  have Kq156 : h_K f n a f154 := by rw [h155]; exact Kq153.far (by omega) hO.1
  have Fq156_274 : isO f154 (n + 344) (n + 265) 1 := by rw [h155]; exact Fq153_265.put
  have Gq156_1 : h_g f154 a 1 (1, (n + 2)) := by rw [h155]; exact Gq153_1.far (by have := hO.1; omega)
  have Gq156_5 : h_g f154 a 5 (1, (n + 103)) := by rw [h155]; exact Gq153_5.far (by have := hO.1; omega)
  have Rq156_2 : isR f154 (n + 344) (n + 2) 4 6 := by rw [h155]; exact Rq153_2.put
  have Rq156_103 : isR f154 (n + 344) (n + 103) 6 4 := by rw [h155]; exact Rq153_103.put
  obtain ⟨f157, h158, hF⟩ := h_tE hF
  have Oq159 : isO f157 (n + 345) a 10 := by rw [h158]; exact Oq156.new
  have Kq159 : h_K f n a f157 := by rw [h158]; exact Kq156.new (by omega) hO.1
  have Gq159_1 : h_g f157 a 1 (1, (n + 2)) := by rw [h158]; exact Gq156_1.new (by have := hO.1; omega)
  have Gq159_5 : h_g f157 a 5 (1, (n + 103)) := by rw [h158]; exact Gq156_5.new (by have := hO.1; omega)
  have Rq159_2 : isR f157 (n + 345) (n + 2) 4 6 := by rw [h158]; exact Rq156_2.new
  have Rq159_103 : isR f157 (n + 345) (n + 103) 6 4 := by rw [h158]; exact Rq156_103.new
  have F0h158 : isO f157 (n + 345) (n + 344) 1 := by rw [h158]; exact isO.here rfl
  obtain ⟨f160, h161, hF⟩ := h_tE hF
  have Ch161 : h_K f157 (n + 345) (n + 344) f160 := by rw [h161]; exact wX1_init F0h158 rfl
  have Oq162 : isO f160 (n + 423) a 10 := Oq159.call Ch161 (by omega)
  have Kq162 : h_K f n a f160 := Kq159.call Ch161 (by omega) (by omega) hO.1
  have Fq162_344 : isO f160 (n + 423) (n + 344) 1 := F0h158.call Ch161 (by omega)
  have Gq162_1 : h_g f160 a 1 (1, (n + 2)) := Gq159_1.call Ch161 Oq159.1 (by have := hO.1; omega)
  have Gq162_5 : h_g f160 a 5 (1, (n + 103)) := Gq159_5.call Ch161 Oq159.1 (by have := hO.1; omega)
  have Rq162_2 : isR f160 (n + 423) (n + 2) 4 6 := Rq159_2.call Ch161 (by omega)
  have Rq162_103 : isR f160 (n + 423) (n + 103) 6 4 := Rq159_103.call Ch161 (by omega)
  obtain ⟨f163, h164, hF⟩ := h_tE hF
  have Oq165 : isO f163 (n + 423) a 10 := by rw [h164]; exact Oq162.put
  have Kq165 : h_K f n a f163 := by rw [h164]; exact Kq162.far (by omega) hO.1
  have Fq165_353 : isO f163 (n + 423) (n + 344) 1 := by rw [h164]; exact Fq162_344.put
  have Gq165_1 : h_g f163 a 1 (1, (n + 2)) := by rw [h164]; exact Gq162_1.far (by have := hO.1; omega)
  have Gq165_5 : h_g f163 a 5 (1, (n + 103)) := by rw [h164]; exact Gq162_5.far (by have := hO.1; omega)
  have Rq165_2 : isR f163 (n + 423) (n + 2) 4 6 := by rw [h164]; exact Rq162_2.put
  have Rq165_103 : isR f163 (n + 423) (n + 103) 6 4 := by rw [h164]; exact Rq162_103.put
  obtain ⟨f166, h167, hF⟩ := h_tE hF
  have Oq168 : isO f166 (n + 424) a 10 := by rw [h167]; exact Oq165.new
  have Kq168 : h_K f n a f166 := by rw [h167]; exact Kq165.new (by omega) hO.1
  have Gq168_1 : h_g f166 a 1 (1, (n + 2)) := by rw [h167]; exact Gq165_1.new (by have := hO.1; omega)
  have Gq168_5 : h_g f166 a 5 (1, (n + 103)) := by rw [h167]; exact Gq165_5.new (by have := hO.1; omega)
  have Rq168_2 : isR f166 (n + 424) (n + 2) 4 6 := by rw [h167]; exact Rq165_2.new
  have Rq168_103 : isR f166 (n + 424) (n + 103) 6 4 := by rw [h167]; exact Rq165_103.new
  have F0h167 : isO f166 (n + 424) (n + 423) 1 := by rw [h167]; exact isO.here rfl
  obtain ⟨f169, h170, hF⟩ := h_tE hF
  have Ch170 : h_K f166 (n + 424) (n + 423) f169 := by rw [h170]; exact wX1_init F0h167 rfl
  have Oq171 : isO f169 (n + 502) a 10 := Oq168.call Ch170 (by omega)
  have Kq171 : h_K f n a f169 := Kq168.call Ch170 (by omega) (by omega) hO.1
  have Fq171_423 : isO f169 (n + 502) (n + 423) 1 := F0h167.call Ch170 (by omega)
  have Gq171_1 : h_g f169 a 1 (1, (n + 2)) := Gq168_1.call Ch170 Oq168.1 (by have := hO.1; omega)
  have Gq171_5 : h_g f169 a 5 (1, (n + 103)) := Gq168_5.call Ch170 Oq168.1 (by have := hO.1; omega)
  have Rq171_2 : isR f169 (n + 502) (n + 2) 4 6 := Rq168_2.call Ch170 (by omega)
  have Rq171_103 : isR f169 (n + 502) (n + 103) 6 4 := Rq168_103.call Ch170 (by omega)
  obtain ⟨f172, h173, hF⟩ := h_tE hF
  have Oq174 : isO f172 (n + 502) a 10 := by rw [h173]; exact Oq171.put
  have Kq174 : h_K f n a f172 := by rw [h173]; exact Kq171.far (by omega) hO.1
  have Fq174_432 : isO f172 (n + 502) (n + 423) 1 := by rw [h173]; exact Fq171_423.put
  have Gq174_1 : h_g f172 a 1 (1, (n + 2)) := by rw [h173]; exact Gq171_1.far (by have := hO.1; omega)
  have Gq174_5 : h_g f172 a 5 (1, (n + 103)) := by rw [h173]; exact Gq171_5.far (by have := hO.1; omega)
  have Rq174_2 : isR f172 (n + 502) (n + 2) 4 6 := by rw [h173]; exact Rq171_2.put
  have Rq174_103 : isR f172 (n + 502) (n + 103) 6 4 := by rw [h173]; exact Rq171_103.put
  subst hF
  exact Kq174
set_option maxRecDepth 100000 in
set_option maxHeartbeats 8000000 in
theorem kX11_init (l : Launch) {y : Ly} {B n a : Nat} {f f1 : FH} (hO : isO f n a 10) (hF : gX11_init n f a = f1) : Met l yX11_init wqX11_init rmX11_init (h_P y B [.ref (B + a)] n f) (h_E y B (n + 502) f1) 502 37995 (h_A B) := by
  refine c_met (by decide) rfl rfl rfl (fun x K hQ => ?_)
  unfold gX11_init at hF
  refine c_aload_n (pc := 0) (n := n) (cells := 0) (slots := 0) K dX11_init_0 0 rfl ?_
  refine c_objInit (pc := 1) (n := n) (cells := 0) (slots := 0) K (List.mem_cons_of_mem _ jl_X11_3) (List.mem_cons_of_mem _ jw_i_objectInit) (List.mem_cons_of_mem _ jw_c_objectInit) dX11_init_1 (Nat.le_of_ble_eq_true rfl) (Nat.le_of_ble_eq_true rfl) ?_
  refine c_aload_n (pc := 4) (n := n) (cells := 0) (slots := 0) K dX11_init_4 0 rfl ?_
  refine c_new (pc := 5) (n := n) (cells := 0) (slots := 0) (ci := 7) (C := RX8) (T := TX8) (N := 2) K [(2, 0), (0, 0)] rfl rfl jn_X8 tyX8 tyX8_ok (List.mem_cons_of_mem _ jl_X11_9) (List.mem_cons_of_mem _ jw_a_X8) (List.mem_cons_of_mem _ jw_n_X8) df_X8 (Nat.le_of_ble_eq_true rfl) (Nat.le_of_ble_eq_true rfl) dX11_init_5 ?_
  refine c_nm hF (fun f1 h2 hF => ?_)
  have Oq3 : isO f1 (n + 1) a 10 := by rw [h2]; exact hO.new
  have Kq3 : h_K f n a f1 := by rw [h2]; exact (h_K.rf (f := f) (n := n) (a := a)).new (by omega) hO.1
  have F0h2 : isO f1 (n + 1) n 7 := by rw [h2]; exact isO.here rfl
  refine c_dup (pc := 8) (n := n + 1) (cells := 1) (slots := 2) K dX11_init_8 rfl ?_
  refine c_callN (pc := 9) (n := n + 1) (cells := 1) (slots := 2) (host := "TwoCards") K (kX8_init l F0h2 rfl) hQ.2.2.2.2 (jg_cons jw_c_X8_init) rfl rfl rfl (List.mem_cons_of_mem _ jw_n_X8) (by decide +kernel) (List.mem_cons_of_mem _ jw_i_X8_init) rfl jd_X8_init ⟨Nat.le_of_ble_eq_true rfl, Nat.le_of_ble_eq_true rfl⟩ (Nat.le_of_ble_eq_true rfl) (Nat.le_of_ble_eq_true rfl) (Nat.le_of_ble_eq_true rfl) dX11_init_9 ?_
  refine c_nm hF (fun f4 h5 hF => ?_)
  have Ch5 : h_K f1 (n + 1) n f4 := by rw [h5]; exact wX8_init F0h2 rfl
  have Oq6 : isO f4 (n + 2) a 10 := Oq3.call Ch5 (by omega)
  have Kq6 : h_K f n a f4 := Kq3.call Ch5 (by omega) (by omega) hO.1
  have Fq6_0 : isO f4 (n + 2) n 7 := F0h2.call Ch5 (by omega)
  refine c_put (pc := 12) (n := n + 2) (cells := 2) (slots := 402) (C := RX11) (T := TX11) (N := 11) (j := 0) (ty := tyX11 0) K (1, n) hQ.2.2.2.1 Oq6 rfl rfl jn_X11 tyX11 tyX11_ok nmX11 (by decide) (List.mem_cons_of_mem _ jl_X11_12) (Or.inr ⟨rfl, rfl⟩) (tyX11_ok 0 (by decide)) rfl rfl rfl dX11_init_12 ?_
  refine c_nm hF (fun f7 h8 hF => ?_)
  have Oq9 : isO f7 (n + 2) a 10 := by rw [h8]; exact Oq6.put
  have Kq9 : h_K f n a f7 := by rw [h8]; exact Kq6.put
  have Fq9_1 : isO f7 (n + 2) n 7 := by rw [h8]; exact Fq6_0.put
  refine c_aload_n (pc := 15) (n := n + 2) (cells := 2) (slots := 402) K dX11_init_15 0 rfl ?_
  refine c_bipush (pc := 16) (n := n + 2) (cells := 2) (slots := 402) (v := 6) K dX11_init_16 rfl ?_
  refine c_anew (pc := 18) (n := n + 2) (cells := 2) (slots := 402) (C := RX2) K 4 6 rfl hQ.2.2.2.2.1 (List.mem_cons_of_mem _ jl_X11_16) (by decide) (by decide) (Nat.le_of_ble_eq_true rfl) (Nat.le_of_ble_eq_true rfl) (Nat.le_of_ble_eq_true rfl) dX11_init_18 ?_
  refine c_nm hF (fun f10 h11 hF => ?_)
  have Oq12 : isO f10 (n + 3) a 10 := by rw [h11]; exact Oq9.new
  have Kq12 : h_K f n a f10 := by rw [h11]; exact Kq9.new (by omega) hO.1
  have R0h11 : isR f10 (n + 3) (n + 2) 4 6 := by rw [h11]; exact isR.here (List.length_replicate ..)
  refine c_put (pc := 21) (n := n + 3) (cells := 3) (slots := 408) (C := RX11) (T := TX11) (N := 11) (j := 1) (ty := tyX11 1) K (1, (n + 2)) hQ.2.2.2.1 Oq12 rfl rfl jn_X11 tyX11 tyX11_ok nmX11 (by decide) (List.mem_cons_of_mem _ jl_X11_18) (Or.inr ⟨rfl, rfl⟩) (tyX11_ok 1 (by decide)) rfl rfl rfl dX11_init_21 ?_
  refine c_nm hF (fun f13 h14 hF => ?_)
  have Oq15 : isO f13 (n + 3) a 10 := by rw [h14]; exact Oq12.put
  have Kq15 : h_K f n a f13 := by rw [h14]; exact Kq12.put
  have Rq15_2 : isR f13 (n + 3) (n + 2) 4 6 := by rw [h14]; exact R0h11.put
  have G0h14 : h_g f13 a 1 (1, (n + 2)) := by rw [h14]; exact h_g.here Oq12 (by decide)
  refine c_aload_n (pc := 24) (n := n + 3) (cells := 3) (slots := 408) K dX11_init_24 0 rfl ?_
  refine c_new (pc := 25) (n := n + 3) (cells := 3) (slots := 408) (ci := 2) (C := RX2) (T := TX2) (N := 12) K [(2, 0), (2, 0), (2, 0), (2, 0), (2, 0), (2, 0), (2, 0), (0, 0), (0, 0), (0, 0), (0, 0), (0, 0)] rfl rfl jn_X2 tyX2 tyX2_ok (List.mem_cons_of_mem _ jl_X11_16) (List.mem_cons_of_mem _ jw_a_X2) (List.mem_cons_of_mem _ jw_n_X2) df_X2 (Nat.le_of_ble_eq_true rfl) (Nat.le_of_ble_eq_true rfl) dX11_init_25 ?_
  refine c_nm hF (fun f16 h17 hF => ?_)
  have Oq18 : isO f16 (n + 4) a 10 := by rw [h17]; exact Oq15.new
  have Kq18 : h_K f n a f16 := by rw [h17]; exact Kq15.new (by omega) hO.1
  have Gq18_1 : h_g f16 a 1 (1, (n + 2)) := by rw [h17]; exact G0h14.new (by have := hO.1; omega)
  have Rq18_2 : isR f16 (n + 4) (n + 2) 4 6 := by rw [h17]; exact Rq15_2.new
  have F0h17 : isO f16 (n + 4) (n + 3) 2 := by rw [h17]; exact isO.here rfl
  refine c_dup (pc := 28) (n := n + 4) (cells := 4) (slots := 420) K dX11_init_28 rfl ?_
  refine c_callN (pc := 29) (n := n + 4) (cells := 4) (slots := 420) (host := "TwoCards") K (kX2_init l F0h17 rfl) hQ.2.2.2.2 (jg_cons jw_c_X2_init) rfl rfl rfl (List.mem_cons_of_mem _ jw_n_X2) (by decide +kernel) (List.mem_cons_of_mem _ jw_i_X2_init) rfl jd_X2_init ⟨Nat.le_of_ble_eq_true rfl, Nat.le_of_ble_eq_true rfl⟩ (Nat.le_of_ble_eq_true rfl) (Nat.le_of_ble_eq_true rfl) (Nat.le_of_ble_eq_true rfl) dX11_init_29 ?_
  refine c_nm hF (fun f19 h20 hF => ?_)
  have Ch20 : h_K f16 (n + 4) (n + 3) f19 := by rw [h20]; exact wX2_init F0h17 rfl
  have Oq21 : isO f19 (n + 11) a 10 := Oq18.call Ch20 (by omega)
  have Kq21 : h_K f n a f19 := Kq18.call Ch20 (by omega) (by omega) hO.1
  have Fq21_3 : isO f19 (n + 11) (n + 3) 2 := F0h17.call Ch20 (by omega)
  have Gq21_1 : h_g f19 a 1 (1, (n + 2)) := Gq18_1.call Ch20 Oq18.1 (by have := hO.1; omega)
  have Rq21_2 : isR f19 (n + 11) (n + 2) 4 6 := Rq18_2.call Ch20 (by omega)
  refine c_put (pc := 32) (n := n + 11) (cells := 11) (slots := 810) (C := RX11) (T := TX11) (N := 11) (j := 2) (ty := tyX11 2) K (1, (n + 3)) hQ.2.2.2.1 Oq21 rfl rfl jn_X11 tyX11 tyX11_ok nmX11 (by decide) (List.mem_cons_of_mem _ jl_X11_23) (Or.inr ⟨rfl, rfl⟩) (tyX11_ok 2 (by decide)) rfl rfl rfl dX11_init_32 ?_
  refine c_nm hF (fun f22 h23 hF => ?_)
  have Oq24 : isO f22 (n + 11) a 10 := by rw [h23]; exact Oq21.put
  have Kq24 : h_K f n a f22 := by rw [h23]; exact Kq21.put
  have Fq24_10 : isO f22 (n + 11) (n + 3) 2 := by rw [h23]; exact Fq21_3.put
  have Gq24_1 : h_g f22 a 1 (1, (n + 2)) := by rw [h23]; exact Gq21_1.other (by decide)
  have Rq24_2 : isR f22 (n + 11) (n + 2) 4 6 := by rw [h23]; exact Rq21_2.put
  refine c_aload_n (pc := 35) (n := n + 11) (cells := 11) (slots := 810) K dX11_init_35 0 rfl ?_
  refine c_new (pc := 36) (n := n + 11) (cells := 11) (slots := 810) (ci := 5) (C := RX5) (T := TX5) (N := 6) K [(2, 0), (2, 0), (0, 0), (0, 0), (0, 0), (0, 0)] rfl rfl jn_X5 tyX5 tyX5_ok (List.mem_cons_of_mem _ jl_X11_27) (List.mem_cons_of_mem _ jw_a_X5) (List.mem_cons_of_mem _ jw_n_X5) df_X5 (Nat.le_of_ble_eq_true rfl) (Nat.le_of_ble_eq_true rfl) dX11_init_36 ?_
  refine c_nm hF (fun f25 h26 hF => ?_)
  have Oq27 : isO f25 (n + 12) a 10 := by rw [h26]; exact Oq24.new
  have Kq27 : h_K f n a f25 := by rw [h26]; exact Kq24.new (by omega) hO.1
  have Gq27_1 : h_g f25 a 1 (1, (n + 2)) := by rw [h26]; exact Gq24_1.new (by have := hO.1; omega)
  have Rq27_2 : isR f25 (n + 12) (n + 2) 4 6 := by rw [h26]; exact Rq24_2.new
  have F0h26 : isO f25 (n + 12) (n + 11) 5 := by rw [h26]; exact isO.here rfl
  refine c_dup (pc := 39) (n := n + 12) (cells := 12) (slots := 816) K dX11_init_39 rfl ?_
  refine c_callN (pc := 40) (n := n + 12) (cells := 12) (slots := 816) (host := "TwoCards") K (kX5_init l F0h26 rfl) hQ.2.2.2.2 (jg_cons jw_c_X5_init) rfl rfl rfl (List.mem_cons_of_mem _ jw_n_X5) (by decide +kernel) (List.mem_cons_of_mem _ jw_i_X5_init) rfl jd_X5_init ⟨Nat.le_of_ble_eq_true rfl, Nat.le_of_ble_eq_true rfl⟩ (Nat.le_of_ble_eq_true rfl) (Nat.le_of_ble_eq_true rfl) (Nat.le_of_ble_eq_true rfl) dX11_init_40 ?_
  refine c_nm hF (fun f28 h29 hF => ?_)
  have Ch29 : h_K f25 (n + 12) (n + 11) f28 := by rw [h29]; exact wX5_init F0h26 rfl
  have Oq30 : isO f28 (n + 24) a 10 := Oq27.call Ch29 (by omega)
  have Kq30 : h_K f n a f28 := Kq27.call Ch29 (by omega) (by omega) hO.1
  have Fq30_11 : isO f28 (n + 24) (n + 11) 5 := F0h26.call Ch29 (by omega)
  have Gq30_1 : h_g f28 a 1 (1, (n + 2)) := Gq27_1.call Ch29 Oq27.1 (by have := hO.1; omega)
  have Rq30_2 : isR f28 (n + 24) (n + 2) 4 6 := Rq27_2.call Ch29 (by omega)
  refine c_put (pc := 43) (n := n + 24) (cells := 24) (slots := 2425) (C := RX11) (T := TX11) (N := 11) (j := 3) (ty := tyX11 3) K (1, (n + 11)) hQ.2.2.2.1 Oq30 rfl rfl jn_X11 tyX11 tyX11_ok nmX11 (by decide) (List.mem_cons_of_mem _ jl_X11_30) (Or.inr ⟨rfl, rfl⟩) (tyX11_ok 3 (by decide)) rfl rfl rfl dX11_init_43 ?_
  refine c_nm hF (fun f31 h32 hF => ?_)
  have Oq33 : isO f31 (n + 24) a 10 := by rw [h32]; exact Oq30.put
  have Kq33 : h_K f n a f31 := by rw [h32]; exact Kq30.put
  have Fq33_19 : isO f31 (n + 24) (n + 11) 5 := by rw [h32]; exact Fq30_11.put
  have Gq33_1 : h_g f31 a 1 (1, (n + 2)) := by rw [h32]; exact Gq30_1.other (by decide)
  have Rq33_2 : isR f31 (n + 24) (n + 2) 4 6 := by rw [h32]; exact Rq30_2.put
  refine c_aload_n (pc := 46) (n := n + 24) (cells := 24) (slots := 2425) K dX11_init_46 0 rfl ?_
  refine c_new (pc := 47) (n := n + 24) (cells := 24) (slots := 2425) (ci := 1) (C := RX1) (T := TX1) (N := 9) K [(2, 0), (2, 0), (2, 0), (2, 0), (2, 0), (2, 0), (0, 0), (0, 0), (0, 0)] rfl rfl jn_X1 tyX1 tyX1_ok (List.mem_cons_of_mem _ jl_X11_34) (List.mem_cons_of_mem _ jw_a_X1) (List.mem_cons_of_mem _ jw_n_X1) df_X1 (Nat.le_of_ble_eq_true rfl) (Nat.le_of_ble_eq_true rfl) dX11_init_47 ?_
  refine c_nm hF (fun f34 h35 hF => ?_)
  have Oq36 : isO f34 (n + 25) a 10 := by rw [h35]; exact Oq33.new
  have Kq36 : h_K f n a f34 := by rw [h35]; exact Kq33.new (by omega) hO.1
  have Gq36_1 : h_g f34 a 1 (1, (n + 2)) := by rw [h35]; exact Gq33_1.new (by have := hO.1; omega)
  have Rq36_2 : isR f34 (n + 25) (n + 2) 4 6 := by rw [h35]; exact Rq33_2.new
  have F0h35 : isO f34 (n + 25) (n + 24) 1 := by rw [h35]; exact isO.here rfl
  refine c_dup (pc := 50) (n := n + 25) (cells := 25) (slots := 2434) K dX11_init_50 rfl ?_
  refine c_callI (pc := 51) (n := n + 25) (cells := 25) (slots := 2434) K (kX1_init l F0h35 rfl) hQ.2.2.2.2 (jg_cons jw_c_X1_init) rfl rfl rfl (List.mem_cons_of_mem _ jw_n_X1) (List.mem_cons_of_mem _ jl_X11_36) (List.mem_cons_of_mem _ jw_i_X1_init) rfl jd_X1_init ⟨Nat.le_of_ble_eq_true rfl, Nat.le_of_ble_eq_true rfl⟩ (Nat.le_of_ble_eq_true rfl) (Nat.le_of_ble_eq_true rfl) (Nat.le_of_ble_eq_true rfl) dX11_init_51 ?_
  refine c_nm hF (fun f37 h38 hF => ?_)
  have Ch38 : h_K f34 (n + 25) (n + 24) f37 := by rw [h38]; exact wX1_init F0h35 rfl
  have Oq39 : isO f37 (n + 103) a 10 := Oq36.call Ch38 (by omega)
  have Kq39 : h_K f n a f37 := Kq36.call Ch38 (by omega) (by omega) hO.1
  have Fq39_24 : isO f37 (n + 103) (n + 24) 1 := F0h35.call Ch38 (by omega)
  have Gq39_1 : h_g f37 a 1 (1, (n + 2)) := Gq36_1.call Ch38 Oq36.1 (by have := hO.1; omega)
  have Rq39_2 : isR f37 (n + 103) (n + 2) 4 6 := Rq36_2.call Ch38 (by omega)
  refine c_put (pc := 54) (n := n + 103) (cells := 103) (slots := 3142) (C := RX11) (T := TX11) (N := 11) (j := 4) (ty := tyX11 4) K (1, (n + 24)) hQ.2.2.2.1 Oq39 rfl rfl jn_X11 tyX11 tyX11_ok nmX11 (by decide) (List.mem_cons_of_mem _ jl_X11_37) (Or.inr ⟨rfl, rfl⟩) (tyX11_ok 4 (by decide)) rfl rfl rfl dX11_init_54 ?_
  refine c_nm hF (fun f40 h41 hF => ?_)
  have Oq42 : isO f40 (n + 103) a 10 := by rw [h41]; exact Oq39.put
  have Kq42 : h_K f n a f40 := by rw [h41]; exact Kq39.put
  have Fq42_32 : isO f40 (n + 103) (n + 24) 1 := by rw [h41]; exact Fq39_24.put
  have Gq42_1 : h_g f40 a 1 (1, (n + 2)) := by rw [h41]; exact Gq39_1.other (by decide)
  have Rq42_2 : isR f40 (n + 103) (n + 2) 4 6 := by rw [h41]; exact Rq39_2.put
  refine c_aload_n (pc := 57) (n := n + 103) (cells := 103) (slots := 3142) K dX11_init_57 0 rfl ?_
  refine c_iconst (pc := 58) (n := n + 103) (cells := 103) (slots := 3142) (v := 4) K dX11_init_58 rfl ?_
  refine c_anew (pc := 59) (n := n + 103) (cells := 103) (slots := 3142) (C := RX1) K 6 4 rfl hQ.2.2.2.2.2.2 (List.mem_cons_of_mem _ jl_X11_34) (by decide) (by decide) (Nat.le_of_ble_eq_true rfl) (Nat.le_of_ble_eq_true rfl) (Nat.le_of_ble_eq_true rfl) dX11_init_59 ?_
  refine c_nm hF (fun f43 h44 hF => ?_)
  have Oq45 : isO f43 (n + 104) a 10 := by rw [h44]; exact Oq42.new
  have Kq45 : h_K f n a f43 := by rw [h44]; exact Kq42.new (by omega) hO.1
  have Gq45_1 : h_g f43 a 1 (1, (n + 2)) := by rw [h44]; exact Gq42_1.new (by have := hO.1; omega)
  have Rq45_2 : isR f43 (n + 104) (n + 2) 4 6 := by rw [h44]; exact Rq42_2.new
  have R0h44 : isR f43 (n + 104) (n + 103) 6 4 := by rw [h44]; exact isR.here (List.length_replicate ..)
  refine c_put (pc := 62) (n := n + 104) (cells := 104) (slots := 3146) (C := RX11) (T := TX11) (N := 11) (j := 5) (ty := tyX11 5) K (1, (n + 103)) hQ.2.2.2.1 Oq45 rfl rfl jn_X11 tyX11 tyX11_ok nmX11 (by decide) (List.mem_cons_of_mem _ jl_X11_41) (Or.inr ⟨rfl, rfl⟩) (tyX11_ok 5 (by decide)) rfl rfl rfl dX11_init_62 ?_
  refine c_nm hF (fun f46 h47 hF => ?_)
  have Oq48 : isO f46 (n + 104) a 10 := by rw [h47]; exact Oq45.put
  have Kq48 : h_K f n a f46 := by rw [h47]; exact Kq45.put
  have Gq48_1 : h_g f46 a 1 (1, (n + 2)) := by rw [h47]; exact Gq45_1.other (by decide)
  have Rq48_2 : isR f46 (n + 104) (n + 2) 4 6 := by rw [h47]; exact Rq45_2.put
  have Rq48_103 : isR f46 (n + 104) (n + 103) 6 4 := by rw [h47]; exact R0h44.put
  have G0h47 : h_g f46 a 5 (1, (n + 103)) := by rw [h47]; exact h_g.here Oq45 (by decide)
  refine c_aload_n (pc := 65) (n := n + 104) (cells := 104) (slots := 3146) K dX11_init_65 0 rfl ?_
  refine c_new (pc := 66) (n := n + 104) (cells := 104) (slots := 3146) (ci := 6) (C := RX6) (T := TX6) (N := 1) K [(2, 0)] rfl rfl jn_X6 tyX6 tyX6_ok (List.mem_cons_of_mem _ jl_X11_45) (List.mem_cons_of_mem _ jw_a_X6) (List.mem_cons_of_mem _ jw_n_X6) df_X6 (Nat.le_of_ble_eq_true rfl) (Nat.le_of_ble_eq_true rfl) dX11_init_66 ?_
  refine c_nm hF (fun f49 h50 hF => ?_)
  have Oq51 : isO f49 (n + 105) a 10 := by rw [h50]; exact Oq48.new
  have Kq51 : h_K f n a f49 := by rw [h50]; exact Kq48.new (by omega) hO.1
  have Gq51_1 : h_g f49 a 1 (1, (n + 2)) := by rw [h50]; exact Gq48_1.new (by have := hO.1; omega)
  have Gq51_5 : h_g f49 a 5 (1, (n + 103)) := by rw [h50]; exact G0h47.new (by have := hO.1; omega)
  have Rq51_2 : isR f49 (n + 105) (n + 2) 4 6 := by rw [h50]; exact Rq48_2.new
  have Rq51_103 : isR f49 (n + 105) (n + 103) 6 4 := by rw [h50]; exact Rq48_103.new
  have F0h50 : isO f49 (n + 105) (n + 104) 6 := by rw [h50]; exact isO.here rfl
  refine c_dup (pc := 69) (n := n + 105) (cells := 105) (slots := 3147) K dX11_init_69 rfl ?_
  refine c_callN (pc := 70) (n := n + 105) (cells := 105) (slots := 3147) (host := "TwoCards") K (kX6_init l F0h50 rfl) hQ.2.2.2.2 (jg_cons jw_c_X6_init) rfl rfl rfl (List.mem_cons_of_mem _ jw_n_X6) (by decide +kernel) (List.mem_cons_of_mem _ jw_i_X6_init) rfl jd_X6_init ⟨Nat.le_of_ble_eq_true rfl, Nat.le_of_ble_eq_true rfl⟩ (Nat.le_of_ble_eq_true rfl) (Nat.le_of_ble_eq_true rfl) (Nat.le_of_ble_eq_true rfl) dX11_init_70 ?_
  refine c_nm hF (fun f52 h53 hF => ?_)
  have Ch53 : h_K f49 (n + 105) (n + 104) f52 := by rw [h53]; exact wX6_init F0h50 rfl
  have Oq54 : isO f52 (n + 106) a 10 := Oq51.call Ch53 (by omega)
  have Kq54 : h_K f n a f52 := Kq51.call Ch53 (by omega) (by omega) hO.1
  have Fq54_104 : isO f52 (n + 106) (n + 104) 6 := F0h50.call Ch53 (by omega)
  have Gq54_1 : h_g f52 a 1 (1, (n + 2)) := Gq51_1.call Ch53 Oq51.1 (by have := hO.1; omega)
  have Gq54_5 : h_g f52 a 5 (1, (n + 103)) := Gq51_5.call Ch53 Oq51.1 (by have := hO.1; omega)
  have Rq54_2 : isR f52 (n + 106) (n + 2) 4 6 := Rq51_2.call Ch53 (by omega)
  have Rq54_103 : isR f52 (n + 106) (n + 103) 6 4 := Rq51_103.call Ch53 (by omega)
  refine c_put (pc := 73) (n := n + 106) (cells := 106) (slots := 3157) (C := RX11) (T := TX11) (N := 11) (j := 6) (ty := tyX11 6) K (1, (n + 104)) hQ.2.2.2.1 Oq54 rfl rfl jn_X11 tyX11 tyX11_ok nmX11 (by decide) (List.mem_cons_of_mem _ jl_X11_48) (Or.inr ⟨rfl, rfl⟩) (tyX11_ok 6 (by decide)) rfl rfl rfl dX11_init_73 ?_
  refine c_nm hF (fun f55 h56 hF => ?_)
  have Oq57 : isO f55 (n + 106) a 10 := by rw [h56]; exact Oq54.put
  have Kq57 : h_K f n a f55 := by rw [h56]; exact Kq54.put
  have Fq57_113 : isO f55 (n + 106) (n + 104) 6 := by rw [h56]; exact Fq54_104.put
  have Gq57_1 : h_g f55 a 1 (1, (n + 2)) := by rw [h56]; exact Gq54_1.other (by decide)
  have Gq57_5 : h_g f55 a 5 (1, (n + 103)) := by rw [h56]; exact Gq54_5.other (by decide)
  have Rq57_2 : isR f55 (n + 106) (n + 2) 4 6 := by rw [h56]; exact Rq54_2.put
  have Rq57_103 : isR f55 (n + 106) (n + 103) 6 4 := by rw [h56]; exact Rq54_103.put
  refine c_aload_n (pc := 76) (n := n + 106) (cells := 106) (slots := 3157) K dX11_init_76 0 rfl ?_
  refine c_new (pc := 77) (n := n + 106) (cells := 106) (slots := 3157) (ci := 0) (C := RX0) (T := TX0) (N := 9) K [(2, 0), (2, 0), (2, 0), (2, 0), (0, 0), (0, 0), (2, 0), (2, 0), (0, 0)] rfl rfl jn_X0 tyX0 tyX0_ok (List.mem_cons_of_mem _ jl_X11_52) (List.mem_cons_of_mem _ jw_a_X0) (List.mem_cons_of_mem _ jw_n_X0) df_X0 (Nat.le_of_ble_eq_true rfl) (Nat.le_of_ble_eq_true rfl) dX11_init_77 ?_
  refine c_nm hF (fun f58 h59 hF => ?_)
  have Oq60 : isO f58 (n + 107) a 10 := by rw [h59]; exact Oq57.new
  have Kq60 : h_K f n a f58 := by rw [h59]; exact Kq57.new (by omega) hO.1
  have Gq60_1 : h_g f58 a 1 (1, (n + 2)) := by rw [h59]; exact Gq57_1.new (by have := hO.1; omega)
  have Gq60_5 : h_g f58 a 5 (1, (n + 103)) := by rw [h59]; exact Gq57_5.new (by have := hO.1; omega)
  have Rq60_2 : isR f58 (n + 107) (n + 2) 4 6 := by rw [h59]; exact Rq57_2.new
  have Rq60_103 : isR f58 (n + 107) (n + 103) 6 4 := by rw [h59]; exact Rq57_103.new
  have F0h59 : isO f58 (n + 107) (n + 106) 0 := by rw [h59]; exact isO.here rfl
  refine c_dup (pc := 80) (n := n + 107) (cells := 107) (slots := 3166) K dX11_init_80 rfl ?_
  refine c_callN (pc := 81) (n := n + 107) (cells := 107) (slots := 3166) (host := "TwoCards") K (kX0_init l F0h59 rfl) hQ.2.2.2.2 (jg_cons jw_c_X0_init) rfl rfl rfl (List.mem_cons_of_mem _ jw_n_X0) (by decide +kernel) (List.mem_cons_of_mem _ jw_i_X0_init) rfl jd_X0_init ⟨Nat.le_of_ble_eq_true rfl, Nat.le_of_ble_eq_true rfl⟩ (Nat.le_of_ble_eq_true rfl) (Nat.le_of_ble_eq_true rfl) (Nat.le_of_ble_eq_true rfl) dX11_init_81 ?_
  refine c_nm hF (fun f61 h62 hF => ?_)
  have Ch62 : h_K f58 (n + 107) (n + 106) f61 := by rw [h62]; exact wX0_init F0h59 rfl
  have Oq63 : isO f61 (n + 129) a 10 := Oq60.call Ch62 (by omega)
  have Kq63 : h_K f n a f61 := Kq60.call Ch62 (by omega) (by omega) hO.1
  have Fq63_106 : isO f61 (n + 129) (n + 106) 0 := F0h59.call Ch62 (by omega)
  have Gq63_1 : h_g f61 a 1 (1, (n + 2)) := Gq60_1.call Ch62 Oq60.1 (by have := hO.1; omega)
  have Gq63_5 : h_g f61 a 5 (1, (n + 103)) := Gq60_5.call Ch62 Oq60.1 (by have := hO.1; omega)
  have Rq63_2 : isR f61 (n + 129) (n + 2) 4 6 := Rq60_2.call Ch62 (by omega)
  have Rq63_103 : isR f61 (n + 129) (n + 103) 6 4 := Rq60_103.call Ch62 (by omega)
  refine c_put (pc := 84) (n := n + 129) (cells := 129) (slots := 12184) (C := RX11) (T := TX11) (N := 11) (j := 7) (ty := tyX11 7) K (1, (n + 106)) hQ.2.2.2.1 Oq63 rfl rfl jn_X11 tyX11 tyX11_ok nmX11 (by decide) (List.mem_cons_of_mem _ jl_X11_55) (Or.inr ⟨rfl, rfl⟩) (tyX11_ok 7 (by decide)) rfl rfl rfl dX11_init_84 ?_
  refine c_nm hF (fun f64 h65 hF => ?_)
  have Oq66 : isO f64 (n + 129) a 10 := by rw [h65]; exact Oq63.put
  have Kq66 : h_K f n a f64 := by rw [h65]; exact Kq63.put
  have Fq66_115 : isO f64 (n + 129) (n + 106) 0 := by rw [h65]; exact Fq63_106.put
  have Gq66_1 : h_g f64 a 1 (1, (n + 2)) := by rw [h65]; exact Gq63_1.other (by decide)
  have Gq66_5 : h_g f64 a 5 (1, (n + 103)) := by rw [h65]; exact Gq63_5.other (by decide)
  have Rq66_2 : isR f64 (n + 129) (n + 2) 4 6 := by rw [h65]; exact Rq63_2.put
  have Rq66_103 : isR f64 (n + 129) (n + 103) 6 4 := by rw [h65]; exact Rq63_103.put
  refine c_aload_n (pc := 87) (n := n + 129) (cells := 129) (slots := 12184) K dX11_init_87 0 rfl ?_
  refine c_new (pc := 88) (n := n + 129) (cells := 129) (slots := 12184) (ci := 3) (C := RX3) (T := TX3) (N := 2) K [(2, 0), (0, 0)] rfl rfl jn_X3 tyX3 tyX3_ok (List.mem_cons_of_mem _ jl_X11_59) (List.mem_cons_of_mem _ jw_a_X3) (List.mem_cons_of_mem _ jw_n_X3) df_X3 (Nat.le_of_ble_eq_true rfl) (Nat.le_of_ble_eq_true rfl) dX11_init_88 ?_
  refine c_nm hF (fun f67 h68 hF => ?_)
  have Oq69 : isO f67 (n + 130) a 10 := by rw [h68]; exact Oq66.new
  have Kq69 : h_K f n a f67 := by rw [h68]; exact Kq66.new (by omega) hO.1
  have Gq69_1 : h_g f67 a 1 (1, (n + 2)) := by rw [h68]; exact Gq66_1.new (by have := hO.1; omega)
  have Gq69_5 : h_g f67 a 5 (1, (n + 103)) := by rw [h68]; exact Gq66_5.new (by have := hO.1; omega)
  have Rq69_2 : isR f67 (n + 130) (n + 2) 4 6 := by rw [h68]; exact Rq66_2.new
  have Rq69_103 : isR f67 (n + 130) (n + 103) 6 4 := by rw [h68]; exact Rq66_103.new
  have F0h68 : isO f67 (n + 130) (n + 129) 3 := by rw [h68]; exact isO.here rfl
  refine c_dup (pc := 91) (n := n + 130) (cells := 130) (slots := 12186) K dX11_init_91 rfl ?_
  refine c_callN (pc := 92) (n := n + 130) (cells := 130) (slots := 12186) (host := "TwoCards") K (kX3_init l F0h68 rfl) hQ.2.2.2.2 (jg_cons jw_c_X3_init) rfl rfl rfl (List.mem_cons_of_mem _ jw_n_X3) (by decide +kernel) (List.mem_cons_of_mem _ jw_i_X3_init) rfl jd_X3_init ⟨Nat.le_of_ble_eq_true rfl, Nat.le_of_ble_eq_true rfl⟩ (Nat.le_of_ble_eq_true rfl) (Nat.le_of_ble_eq_true rfl) (Nat.le_of_ble_eq_true rfl) dX11_init_92 ?_
  refine c_nm hF (fun f70 h71 hF => ?_)
  have Ch71 : h_K f67 (n + 130) (n + 129) f70 := by rw [h71]; exact wX3_init F0h68 rfl
  have Oq72 : isO f70 (n + 131) a 10 := Oq69.call Ch71 (by omega)
  have Kq72 : h_K f n a f70 := Kq69.call Ch71 (by omega) (by omega) hO.1
  have Fq72_129 : isO f70 (n + 131) (n + 129) 3 := F0h68.call Ch71 (by omega)
  have Gq72_1 : h_g f70 a 1 (1, (n + 2)) := Gq69_1.call Ch71 Oq69.1 (by have := hO.1; omega)
  have Gq72_5 : h_g f70 a 5 (1, (n + 103)) := Gq69_5.call Ch71 Oq69.1 (by have := hO.1; omega)
  have Rq72_2 : isR f70 (n + 131) (n + 2) 4 6 := Rq69_2.call Ch71 (by omega)
  have Rq72_103 : isR f70 (n + 131) (n + 103) 6 4 := Rq69_103.call Ch71 (by omega)
  refine c_put (pc := 95) (n := n + 131) (cells := 131) (slots := 16282) (C := RX11) (T := TX11) (N := 11) (j := 8) (ty := tyX11 8) K (1, (n + 129)) hQ.2.2.2.1 Oq72 rfl rfl jn_X11 tyX11 tyX11_ok nmX11 (by decide) (List.mem_cons_of_mem _ jl_X11_62) (Or.inr ⟨rfl, rfl⟩) (tyX11_ok 8 (by decide)) rfl rfl rfl dX11_init_95 ?_
  refine c_nm hF (fun f73 h74 hF => ?_)
  have Oq75 : isO f73 (n + 131) a 10 := by rw [h74]; exact Oq72.put
  have Kq75 : h_K f n a f73 := by rw [h74]; exact Kq72.put
  have Fq75_138 : isO f73 (n + 131) (n + 129) 3 := by rw [h74]; exact Fq72_129.put
  have Gq75_1 : h_g f73 a 1 (1, (n + 2)) := by rw [h74]; exact Gq72_1.other (by decide)
  have Gq75_5 : h_g f73 a 5 (1, (n + 103)) := by rw [h74]; exact Gq72_5.other (by decide)
  have Rq75_2 : isR f73 (n + 131) (n + 2) 4 6 := by rw [h74]; exact Rq72_2.put
  have Rq75_103 : isR f73 (n + 131) (n + 103) 6 4 := by rw [h74]; exact Rq72_103.put
  refine c_aload_n (pc := 98) (n := n + 131) (cells := 131) (slots := 16282) K dX11_init_98 0 rfl ?_
  refine c_new (pc := 99) (n := n + 131) (cells := 131) (slots := 16282) (ci := 9) (C := RX10) (T := TX10) (N := 9) K [(2, 0), (2, 0), (2, 0), (2, 0), (2, 0), (2, 0), (0, 0), (0, 0), (0, 0)] rfl rfl jn_X10 tyX10 tyX10_ok (List.mem_cons_of_mem _ jl_X11_66) (List.mem_cons_of_mem _ jw_a_X10) (List.mem_cons_of_mem _ jw_n_X10) df_X10 (Nat.le_of_ble_eq_true rfl) (Nat.le_of_ble_eq_true rfl) dX11_init_99 ?_
  refine c_nm hF (fun f76 h77 hF => ?_)
  have Oq78 : isO f76 (n + 132) a 10 := by rw [h77]; exact Oq75.new
  have Kq78 : h_K f n a f76 := by rw [h77]; exact Kq75.new (by omega) hO.1
  have Gq78_1 : h_g f76 a 1 (1, (n + 2)) := by rw [h77]; exact Gq75_1.new (by have := hO.1; omega)
  have Gq78_5 : h_g f76 a 5 (1, (n + 103)) := by rw [h77]; exact Gq75_5.new (by have := hO.1; omega)
  have Rq78_2 : isR f76 (n + 132) (n + 2) 4 6 := by rw [h77]; exact Rq75_2.new
  have Rq78_103 : isR f76 (n + 132) (n + 103) 6 4 := by rw [h77]; exact Rq75_103.new
  have F0h77 : isO f76 (n + 132) (n + 131) 9 := by rw [h77]; exact isO.here rfl
  refine c_dup (pc := 102) (n := n + 132) (cells := 132) (slots := 16291) K dX11_init_102 rfl ?_
  refine c_callN (pc := 103) (n := n + 132) (cells := 132) (slots := 16291) (host := "TwoCards") K (kX10_init l F0h77 rfl) hQ.2.2.2.2 (jg_cons jw_c_X10_init) rfl rfl rfl (List.mem_cons_of_mem _ jw_n_X10) (by decide +kernel) (List.mem_cons_of_mem _ jw_i_X10_init) rfl jd_X10_init ⟨Nat.le_of_ble_eq_true rfl, Nat.le_of_ble_eq_true rfl⟩ (Nat.le_of_ble_eq_true rfl) (Nat.le_of_ble_eq_true rfl) (Nat.le_of_ble_eq_true rfl) dX11_init_103 ?_
  refine c_nm hF (fun f79 h80 hF => ?_)
  have Ch80 : h_K f76 (n + 132) (n + 131) f79 := by rw [h80]; exact wX10_init F0h77 rfl
  have Oq81 : isO f79 (n + 138) a 10 := Oq78.call Ch80 (by omega)
  have Kq81 : h_K f n a f79 := Kq78.call Ch80 (by omega) (by omega) hO.1
  have Fq81_131 : isO f79 (n + 138) (n + 131) 9 := F0h77.call Ch80 (by omega)
  have Gq81_1 : h_g f79 a 1 (1, (n + 2)) := Gq78_1.call Ch80 Oq78.1 (by have := hO.1; omega)
  have Gq81_5 : h_g f79 a 5 (1, (n + 103)) := Gq78_5.call Ch80 Oq78.1 (by have := hO.1; omega)
  have Rq81_2 : isR f79 (n + 138) (n + 2) 4 6 := Rq78_2.call Ch80 (by omega)
  have Rq81_103 : isR f79 (n + 138) (n + 103) 6 4 := Rq78_103.call Ch80 (by omega)
  refine c_put (pc := 106) (n := n + 138) (cells := 138) (slots := 32715) (C := RX11) (T := TX11) (N := 11) (j := 9) (ty := tyX11 9) K (1, (n + 131)) hQ.2.2.2.1 Oq81 rfl rfl jn_X11 tyX11 tyX11_ok nmX11 (by decide) (List.mem_cons_of_mem _ jl_X11_69) (Or.inr ⟨rfl, rfl⟩) (tyX11_ok 9 (by decide)) rfl rfl rfl dX11_init_106 ?_
  refine c_nm hF (fun f82 h83 hF => ?_)
  have Oq84 : isO f82 (n + 138) a 10 := by rw [h83]; exact Oq81.put
  have Kq84 : h_K f n a f82 := by rw [h83]; exact Kq81.put
  have Fq84_140 : isO f82 (n + 138) (n + 131) 9 := by rw [h83]; exact Fq81_131.put
  have Gq84_1 : h_g f82 a 1 (1, (n + 2)) := by rw [h83]; exact Gq81_1.other (by decide)
  have Gq84_5 : h_g f82 a 5 (1, (n + 103)) := by rw [h83]; exact Gq81_5.other (by decide)
  have Rq84_2 : isR f82 (n + 138) (n + 2) 4 6 := by rw [h83]; exact Rq81_2.put
  have Rq84_103 : isR f82 (n + 138) (n + 103) 6 4 := by rw [h83]; exact Rq81_103.put
  refine c_iconst (pc := 109) (n := n + 138) (cells := 138) (slots := 32715) (v := 0) K dX11_init_109 rfl ?_
  refine c_istore_n (pc := 110) (n := n + 138) (cells := 138) (slots := 32715) (lv' := [(1, .int 0), (0, .ref (B + a))]) K dX11_init_110 1 rfl (by decide) rfl ?_
  refine c_iload_n (pc := 111) (n := n + 138) (cells := 138) (slots := 32715) K dX11_init_111 0 rfl ?_
  refine c_bipush (pc := 112) (n := n + 138) (cells := 138) (slots := 32715) (v := 6) K dX11_init_112 rfl ?_
  refine c_geF (pc := 114) (n := n + 138) (cells := 138) (slots := 32715) (tgt := 136) K dX11_init_114 (by decide) (by decide) ?_
  refine c_aload_n (pc := 117) (n := n + 138) (cells := 138) (slots := 32715) K dX11_init_117 1 rfl ?_
  refine c_get (pc := 118) (n := n + 138) (cells := 138) (slots := 32715) (C := RX11) (T := TX11) (N := 11) (j := 1) K Oq84 Gq84_1 rfl rfl jn_X11 (by decide) (List.mem_cons_of_mem _ jl_X11_18) dX11_init_118 ?_
  refine c_iload_n (pc := 121) (n := n + 138) (cells := 138) (slots := 32715) K dX11_init_121 0 rfl ?_
  refine c_new (pc := 122) (n := n + 138) (cells := 138) (slots := 32715) (ci := 2) (C := RX2) (T := TX2) (N := 12) K [(2, 0), (2, 0), (2, 0), (2, 0), (2, 0), (2, 0), (2, 0), (0, 0), (0, 0), (0, 0), (0, 0), (0, 0)] rfl rfl jn_X2 tyX2 tyX2_ok (List.mem_cons_of_mem _ jl_X11_16) (List.mem_cons_of_mem _ jw_a_X2) (List.mem_cons_of_mem _ jw_n_X2) df_X2 (Nat.le_of_ble_eq_true rfl) (Nat.le_of_ble_eq_true rfl) dX11_init_122 ?_
  refine c_nm hF (fun f85 h86 hF => ?_)
  have Oq87 : isO f85 (n + 139) a 10 := by rw [h86]; exact Oq84.new
  have Kq87 : h_K f n a f85 := by rw [h86]; exact Kq84.new (by omega) hO.1
  have Gq87_1 : h_g f85 a 1 (1, (n + 2)) := by rw [h86]; exact Gq84_1.new (by have := hO.1; omega)
  have Gq87_5 : h_g f85 a 5 (1, (n + 103)) := by rw [h86]; exact Gq84_5.new (by have := hO.1; omega)
  have Rq87_2 : isR f85 (n + 139) (n + 2) 4 6 := by rw [h86]; exact Rq84_2.new
  have Rq87_103 : isR f85 (n + 139) (n + 103) 6 4 := by rw [h86]; exact Rq84_103.new
  have F0h86 : isO f85 (n + 139) (n + 138) 2 := by rw [h86]; exact isO.here rfl
  refine c_dup (pc := 125) (n := n + 139) (cells := 139) (slots := 32727) K dX11_init_125 rfl ?_
  refine c_callN (pc := 126) (n := n + 139) (cells := 139) (slots := 32727) (host := "TwoCards") K (kX2_init l F0h86 rfl) hQ.2.2.2.2 (jg_cons jw_c_X2_init) rfl rfl rfl (List.mem_cons_of_mem _ jw_n_X2) (by decide +kernel) (List.mem_cons_of_mem _ jw_i_X2_init) rfl jd_X2_init ⟨Nat.le_of_ble_eq_true rfl, Nat.le_of_ble_eq_true rfl⟩ (Nat.le_of_ble_eq_true rfl) (Nat.le_of_ble_eq_true rfl) (Nat.le_of_ble_eq_true rfl) dX11_init_126 ?_
  refine c_nm hF (fun f88 h89 hF => ?_)
  have Ch89 : h_K f85 (n + 139) (n + 138) f88 := by rw [h89]; exact wX2_init F0h86 rfl
  have Oq90 : isO f88 (n + 146) a 10 := Oq87.call Ch89 (by omega)
  have Kq90 : h_K f n a f88 := Kq87.call Ch89 (by omega) (by omega) hO.1
  have Fq90_138 : isO f88 (n + 146) (n + 138) 2 := F0h86.call Ch89 (by omega)
  have Gq90_1 : h_g f88 a 1 (1, (n + 2)) := Gq87_1.call Ch89 Oq87.1 (by have := hO.1; omega)
  have Gq90_5 : h_g f88 a 5 (1, (n + 103)) := Gq87_5.call Ch89 Oq87.1 (by have := hO.1; omega)
  have Rq90_2 : isR f88 (n + 146) (n + 2) 4 6 := Rq87_2.call Ch89 (by omega)
  have Rq90_103 : isR f88 (n + 146) (n + 103) 6 4 := Rq87_103.call Ch89 (by omega)
  refine c_aast (pc := 129) (n := n + 146) (cells := 146) (slots := 33117) (C := RX2) (T := TX2) (N := 12) K 0 Rq90_2 Fq90_138 rfl rfl (by decide) (by decide) dX11_init_129 ?_
  refine c_nm hF (fun f91 h92 hF => ?_)
  have Oq93 : isO f91 (n + 146) a 10 := by rw [h92]; exact Oq90.put
  have Kq93 : h_K f n a f91 := by rw [h92]; exact Kq90.far (by omega) hO.1
  have Fq93_147 : isO f91 (n + 146) (n + 138) 2 := by rw [h92]; exact Fq90_138.put
  have Gq93_1 : h_g f91 a 1 (1, (n + 2)) := by rw [h92]; exact Gq90_1.far (by have := hO.1; omega)
  have Gq93_5 : h_g f91 a 5 (1, (n + 103)) := by rw [h92]; exact Gq90_5.far (by have := hO.1; omega)
  have Rq93_2 : isR f91 (n + 146) (n + 2) 4 6 := by rw [h92]; exact Rq90_2.put
  have Rq93_103 : isR f91 (n + 146) (n + 103) 6 4 := by rw [h92]; exact Rq90_103.put
  refine c_iinc (pc := 130) (n := n + 146) (cells := 146) (slots := 33117) (v1 := 1) (lv' := [(1, .int 1), (0, .ref (B + a))]) K dX11_init_130 0 rfl (by decide) (by decide) rfl ?_
  refine c_goto (pc := 133) (n := n + 146) (cells := 146) (slots := 33117) (tgt := 111) K dX11_init_133 (by decide) ?_
  refine c_iload_n (pc := 111) (n := n + 146) (cells := 146) (slots := 33117) K dX11_init_111 0 rfl ?_
  refine c_bipush (pc := 112) (n := n + 146) (cells := 146) (slots := 33117) (v := 6) K dX11_init_112 rfl ?_
  refine c_geF (pc := 114) (n := n + 146) (cells := 146) (slots := 33117) (tgt := 136) K dX11_init_114 (by decide) (by decide) ?_
  refine c_aload_n (pc := 117) (n := n + 146) (cells := 146) (slots := 33117) K dX11_init_117 1 rfl ?_
  refine c_get (pc := 118) (n := n + 146) (cells := 146) (slots := 33117) (C := RX11) (T := TX11) (N := 11) (j := 1) K Oq93 Gq93_1 rfl rfl jn_X11 (by decide) (List.mem_cons_of_mem _ jl_X11_18) dX11_init_118 ?_
  refine c_iload_n (pc := 121) (n := n + 146) (cells := 146) (slots := 33117) K dX11_init_121 0 rfl ?_
  refine c_new (pc := 122) (n := n + 146) (cells := 146) (slots := 33117) (ci := 2) (C := RX2) (T := TX2) (N := 12) K [(2, 0), (2, 0), (2, 0), (2, 0), (2, 0), (2, 0), (2, 0), (0, 0), (0, 0), (0, 0), (0, 0), (0, 0)] rfl rfl jn_X2 tyX2 tyX2_ok (List.mem_cons_of_mem _ jl_X11_16) (List.mem_cons_of_mem _ jw_a_X2) (List.mem_cons_of_mem _ jw_n_X2) df_X2 (Nat.le_of_ble_eq_true rfl) (Nat.le_of_ble_eq_true rfl) dX11_init_122 ?_
  refine c_nm hF (fun f94 h95 hF => ?_)
  have Oq96 : isO f94 (n + 147) a 10 := by rw [h95]; exact Oq93.new
  have Kq96 : h_K f n a f94 := by rw [h95]; exact Kq93.new (by omega) hO.1
  have Gq96_1 : h_g f94 a 1 (1, (n + 2)) := by rw [h95]; exact Gq93_1.new (by have := hO.1; omega)
  have Gq96_5 : h_g f94 a 5 (1, (n + 103)) := by rw [h95]; exact Gq93_5.new (by have := hO.1; omega)
  have Rq96_2 : isR f94 (n + 147) (n + 2) 4 6 := by rw [h95]; exact Rq93_2.new
  have Rq96_103 : isR f94 (n + 147) (n + 103) 6 4 := by rw [h95]; exact Rq93_103.new
  have F0h95 : isO f94 (n + 147) (n + 146) 2 := by rw [h95]; exact isO.here rfl
  refine c_dup (pc := 125) (n := n + 147) (cells := 147) (slots := 33129) K dX11_init_125 rfl ?_
  refine c_callN (pc := 126) (n := n + 147) (cells := 147) (slots := 33129) (host := "TwoCards") K (kX2_init l F0h95 rfl) hQ.2.2.2.2 (jg_cons jw_c_X2_init) rfl rfl rfl (List.mem_cons_of_mem _ jw_n_X2) (by decide +kernel) (List.mem_cons_of_mem _ jw_i_X2_init) rfl jd_X2_init ⟨Nat.le_of_ble_eq_true rfl, Nat.le_of_ble_eq_true rfl⟩ (Nat.le_of_ble_eq_true rfl) (Nat.le_of_ble_eq_true rfl) (Nat.le_of_ble_eq_true rfl) dX11_init_126 ?_
  refine c_nm hF (fun f97 h98 hF => ?_)
  have Ch98 : h_K f94 (n + 147) (n + 146) f97 := by rw [h98]; exact wX2_init F0h95 rfl
  have Oq99 : isO f97 (n + 154) a 10 := Oq96.call Ch98 (by omega)
  have Kq99 : h_K f n a f97 := Kq96.call Ch98 (by omega) (by omega) hO.1
  have Fq99_146 : isO f97 (n + 154) (n + 146) 2 := F0h95.call Ch98 (by omega)
  have Gq99_1 : h_g f97 a 1 (1, (n + 2)) := Gq96_1.call Ch98 Oq96.1 (by have := hO.1; omega)
  have Gq99_5 : h_g f97 a 5 (1, (n + 103)) := Gq96_5.call Ch98 Oq96.1 (by have := hO.1; omega)
  have Rq99_2 : isR f97 (n + 154) (n + 2) 4 6 := Rq96_2.call Ch98 (by omega)
  have Rq99_103 : isR f97 (n + 154) (n + 103) 6 4 := Rq96_103.call Ch98 (by omega)
  refine c_aast (pc := 129) (n := n + 154) (cells := 154) (slots := 33519) (C := RX2) (T := TX2) (N := 12) K 1 Rq99_2 Fq99_146 rfl rfl (by decide) (by decide) dX11_init_129 ?_
  refine c_nm hF (fun f100 h101 hF => ?_)
  have Oq102 : isO f100 (n + 154) a 10 := by rw [h101]; exact Oq99.put
  have Kq102 : h_K f n a f100 := by rw [h101]; exact Kq99.far (by omega) hO.1
  have Fq102_155 : isO f100 (n + 154) (n + 146) 2 := by rw [h101]; exact Fq99_146.put
  have Gq102_1 : h_g f100 a 1 (1, (n + 2)) := by rw [h101]; exact Gq99_1.far (by have := hO.1; omega)
  have Gq102_5 : h_g f100 a 5 (1, (n + 103)) := by rw [h101]; exact Gq99_5.far (by have := hO.1; omega)
  have Rq102_2 : isR f100 (n + 154) (n + 2) 4 6 := by rw [h101]; exact Rq99_2.put
  have Rq102_103 : isR f100 (n + 154) (n + 103) 6 4 := by rw [h101]; exact Rq99_103.put
  refine c_iinc (pc := 130) (n := n + 154) (cells := 154) (slots := 33519) (v1 := 2) (lv' := [(1, .int 2), (0, .ref (B + a))]) K dX11_init_130 0 rfl (by decide) (by decide) rfl ?_
  refine c_goto (pc := 133) (n := n + 154) (cells := 154) (slots := 33519) (tgt := 111) K dX11_init_133 (by decide) ?_
  refine c_iload_n (pc := 111) (n := n + 154) (cells := 154) (slots := 33519) K dX11_init_111 0 rfl ?_
  refine c_bipush (pc := 112) (n := n + 154) (cells := 154) (slots := 33519) (v := 6) K dX11_init_112 rfl ?_
  refine c_geF (pc := 114) (n := n + 154) (cells := 154) (slots := 33519) (tgt := 136) K dX11_init_114 (by decide) (by decide) ?_
  refine c_aload_n (pc := 117) (n := n + 154) (cells := 154) (slots := 33519) K dX11_init_117 1 rfl ?_
  refine c_get (pc := 118) (n := n + 154) (cells := 154) (slots := 33519) (C := RX11) (T := TX11) (N := 11) (j := 1) K Oq102 Gq102_1 rfl rfl jn_X11 (by decide) (List.mem_cons_of_mem _ jl_X11_18) dX11_init_118 ?_
  refine c_iload_n (pc := 121) (n := n + 154) (cells := 154) (slots := 33519) K dX11_init_121 0 rfl ?_
  refine c_new (pc := 122) (n := n + 154) (cells := 154) (slots := 33519) (ci := 2) (C := RX2) (T := TX2) (N := 12) K [(2, 0), (2, 0), (2, 0), (2, 0), (2, 0), (2, 0), (2, 0), (0, 0), (0, 0), (0, 0), (0, 0), (0, 0)] rfl rfl jn_X2 tyX2 tyX2_ok (List.mem_cons_of_mem _ jl_X11_16) (List.mem_cons_of_mem _ jw_a_X2) (List.mem_cons_of_mem _ jw_n_X2) df_X2 (Nat.le_of_ble_eq_true rfl) (Nat.le_of_ble_eq_true rfl) dX11_init_122 ?_
  refine c_nm hF (fun f103 h104 hF => ?_)
  have Oq105 : isO f103 (n + 155) a 10 := by rw [h104]; exact Oq102.new
  have Kq105 : h_K f n a f103 := by rw [h104]; exact Kq102.new (by omega) hO.1
  have Gq105_1 : h_g f103 a 1 (1, (n + 2)) := by rw [h104]; exact Gq102_1.new (by have := hO.1; omega)
  have Gq105_5 : h_g f103 a 5 (1, (n + 103)) := by rw [h104]; exact Gq102_5.new (by have := hO.1; omega)
  have Rq105_2 : isR f103 (n + 155) (n + 2) 4 6 := by rw [h104]; exact Rq102_2.new
  have Rq105_103 : isR f103 (n + 155) (n + 103) 6 4 := by rw [h104]; exact Rq102_103.new
  have F0h104 : isO f103 (n + 155) (n + 154) 2 := by rw [h104]; exact isO.here rfl
  refine c_dup (pc := 125) (n := n + 155) (cells := 155) (slots := 33531) K dX11_init_125 rfl ?_
  refine c_callN (pc := 126) (n := n + 155) (cells := 155) (slots := 33531) (host := "TwoCards") K (kX2_init l F0h104 rfl) hQ.2.2.2.2 (jg_cons jw_c_X2_init) rfl rfl rfl (List.mem_cons_of_mem _ jw_n_X2) (by decide +kernel) (List.mem_cons_of_mem _ jw_i_X2_init) rfl jd_X2_init ⟨Nat.le_of_ble_eq_true rfl, Nat.le_of_ble_eq_true rfl⟩ (Nat.le_of_ble_eq_true rfl) (Nat.le_of_ble_eq_true rfl) (Nat.le_of_ble_eq_true rfl) dX11_init_126 ?_
  refine c_nm hF (fun f106 h107 hF => ?_)
  have Ch107 : h_K f103 (n + 155) (n + 154) f106 := by rw [h107]; exact wX2_init F0h104 rfl
  have Oq108 : isO f106 (n + 162) a 10 := Oq105.call Ch107 (by omega)
  have Kq108 : h_K f n a f106 := Kq105.call Ch107 (by omega) (by omega) hO.1
  have Fq108_154 : isO f106 (n + 162) (n + 154) 2 := F0h104.call Ch107 (by omega)
  have Gq108_1 : h_g f106 a 1 (1, (n + 2)) := Gq105_1.call Ch107 Oq105.1 (by have := hO.1; omega)
  have Gq108_5 : h_g f106 a 5 (1, (n + 103)) := Gq105_5.call Ch107 Oq105.1 (by have := hO.1; omega)
  have Rq108_2 : isR f106 (n + 162) (n + 2) 4 6 := Rq105_2.call Ch107 (by omega)
  have Rq108_103 : isR f106 (n + 162) (n + 103) 6 4 := Rq105_103.call Ch107 (by omega)
  refine c_aast (pc := 129) (n := n + 162) (cells := 162) (slots := 33921) (C := RX2) (T := TX2) (N := 12) K 2 Rq108_2 Fq108_154 rfl rfl (by decide) (by decide) dX11_init_129 ?_
  refine c_nm hF (fun f109 h110 hF => ?_)
  have Oq111 : isO f109 (n + 162) a 10 := by rw [h110]; exact Oq108.put
  have Kq111 : h_K f n a f109 := by rw [h110]; exact Kq108.far (by omega) hO.1
  have Fq111_163 : isO f109 (n + 162) (n + 154) 2 := by rw [h110]; exact Fq108_154.put
  have Gq111_1 : h_g f109 a 1 (1, (n + 2)) := by rw [h110]; exact Gq108_1.far (by have := hO.1; omega)
  have Gq111_5 : h_g f109 a 5 (1, (n + 103)) := by rw [h110]; exact Gq108_5.far (by have := hO.1; omega)
  have Rq111_2 : isR f109 (n + 162) (n + 2) 4 6 := by rw [h110]; exact Rq108_2.put
  have Rq111_103 : isR f109 (n + 162) (n + 103) 6 4 := by rw [h110]; exact Rq108_103.put
  refine c_iinc (pc := 130) (n := n + 162) (cells := 162) (slots := 33921) (v1 := 3) (lv' := [(1, .int 3), (0, .ref (B + a))]) K dX11_init_130 0 rfl (by decide) (by decide) rfl ?_
  refine c_goto (pc := 133) (n := n + 162) (cells := 162) (slots := 33921) (tgt := 111) K dX11_init_133 (by decide) ?_
  refine c_iload_n (pc := 111) (n := n + 162) (cells := 162) (slots := 33921) K dX11_init_111 0 rfl ?_
  refine c_bipush (pc := 112) (n := n + 162) (cells := 162) (slots := 33921) (v := 6) K dX11_init_112 rfl ?_
  refine c_geF (pc := 114) (n := n + 162) (cells := 162) (slots := 33921) (tgt := 136) K dX11_init_114 (by decide) (by decide) ?_
  refine c_aload_n (pc := 117) (n := n + 162) (cells := 162) (slots := 33921) K dX11_init_117 1 rfl ?_
  refine c_get (pc := 118) (n := n + 162) (cells := 162) (slots := 33921) (C := RX11) (T := TX11) (N := 11) (j := 1) K Oq111 Gq111_1 rfl rfl jn_X11 (by decide) (List.mem_cons_of_mem _ jl_X11_18) dX11_init_118 ?_
  refine c_iload_n (pc := 121) (n := n + 162) (cells := 162) (slots := 33921) K dX11_init_121 0 rfl ?_
  refine c_new (pc := 122) (n := n + 162) (cells := 162) (slots := 33921) (ci := 2) (C := RX2) (T := TX2) (N := 12) K [(2, 0), (2, 0), (2, 0), (2, 0), (2, 0), (2, 0), (2, 0), (0, 0), (0, 0), (0, 0), (0, 0), (0, 0)] rfl rfl jn_X2 tyX2 tyX2_ok (List.mem_cons_of_mem _ jl_X11_16) (List.mem_cons_of_mem _ jw_a_X2) (List.mem_cons_of_mem _ jw_n_X2) df_X2 (Nat.le_of_ble_eq_true rfl) (Nat.le_of_ble_eq_true rfl) dX11_init_122 ?_
  refine c_nm hF (fun f112 h113 hF => ?_)
  have Oq114 : isO f112 (n + 163) a 10 := by rw [h113]; exact Oq111.new
  have Kq114 : h_K f n a f112 := by rw [h113]; exact Kq111.new (by omega) hO.1
  have Gq114_1 : h_g f112 a 1 (1, (n + 2)) := by rw [h113]; exact Gq111_1.new (by have := hO.1; omega)
  have Gq114_5 : h_g f112 a 5 (1, (n + 103)) := by rw [h113]; exact Gq111_5.new (by have := hO.1; omega)
  have Rq114_2 : isR f112 (n + 163) (n + 2) 4 6 := by rw [h113]; exact Rq111_2.new
  have Rq114_103 : isR f112 (n + 163) (n + 103) 6 4 := by rw [h113]; exact Rq111_103.new
  have F0h113 : isO f112 (n + 163) (n + 162) 2 := by rw [h113]; exact isO.here rfl
  refine c_dup (pc := 125) (n := n + 163) (cells := 163) (slots := 33933) K dX11_init_125 rfl ?_
  refine c_callN (pc := 126) (n := n + 163) (cells := 163) (slots := 33933) (host := "TwoCards") K (kX2_init l F0h113 rfl) hQ.2.2.2.2 (jg_cons jw_c_X2_init) rfl rfl rfl (List.mem_cons_of_mem _ jw_n_X2) (by decide +kernel) (List.mem_cons_of_mem _ jw_i_X2_init) rfl jd_X2_init ⟨Nat.le_of_ble_eq_true rfl, Nat.le_of_ble_eq_true rfl⟩ (Nat.le_of_ble_eq_true rfl) (Nat.le_of_ble_eq_true rfl) (Nat.le_of_ble_eq_true rfl) dX11_init_126 ?_
  refine c_nm hF (fun f115 h116 hF => ?_)
  have Ch116 : h_K f112 (n + 163) (n + 162) f115 := by rw [h116]; exact wX2_init F0h113 rfl
  have Oq117 : isO f115 (n + 170) a 10 := Oq114.call Ch116 (by omega)
  have Kq117 : h_K f n a f115 := Kq114.call Ch116 (by omega) (by omega) hO.1
  have Fq117_162 : isO f115 (n + 170) (n + 162) 2 := F0h113.call Ch116 (by omega)
  have Gq117_1 : h_g f115 a 1 (1, (n + 2)) := Gq114_1.call Ch116 Oq114.1 (by have := hO.1; omega)
  have Gq117_5 : h_g f115 a 5 (1, (n + 103)) := Gq114_5.call Ch116 Oq114.1 (by have := hO.1; omega)
  have Rq117_2 : isR f115 (n + 170) (n + 2) 4 6 := Rq114_2.call Ch116 (by omega)
  have Rq117_103 : isR f115 (n + 170) (n + 103) 6 4 := Rq114_103.call Ch116 (by omega)
  refine c_aast (pc := 129) (n := n + 170) (cells := 170) (slots := 34323) (C := RX2) (T := TX2) (N := 12) K 3 Rq117_2 Fq117_162 rfl rfl (by decide) (by decide) dX11_init_129 ?_
  refine c_nm hF (fun f118 h119 hF => ?_)
  have Oq120 : isO f118 (n + 170) a 10 := by rw [h119]; exact Oq117.put
  have Kq120 : h_K f n a f118 := by rw [h119]; exact Kq117.far (by omega) hO.1
  have Fq120_171 : isO f118 (n + 170) (n + 162) 2 := by rw [h119]; exact Fq117_162.put
  have Gq120_1 : h_g f118 a 1 (1, (n + 2)) := by rw [h119]; exact Gq117_1.far (by have := hO.1; omega)
  have Gq120_5 : h_g f118 a 5 (1, (n + 103)) := by rw [h119]; exact Gq117_5.far (by have := hO.1; omega)
  have Rq120_2 : isR f118 (n + 170) (n + 2) 4 6 := by rw [h119]; exact Rq117_2.put
  have Rq120_103 : isR f118 (n + 170) (n + 103) 6 4 := by rw [h119]; exact Rq117_103.put
  refine c_iinc (pc := 130) (n := n + 170) (cells := 170) (slots := 34323) (v1 := 4) (lv' := [(1, .int 4), (0, .ref (B + a))]) K dX11_init_130 0 rfl (by decide) (by decide) rfl ?_
  refine c_goto (pc := 133) (n := n + 170) (cells := 170) (slots := 34323) (tgt := 111) K dX11_init_133 (by decide) ?_
  refine c_iload_n (pc := 111) (n := n + 170) (cells := 170) (slots := 34323) K dX11_init_111 0 rfl ?_
  refine c_bipush (pc := 112) (n := n + 170) (cells := 170) (slots := 34323) (v := 6) K dX11_init_112 rfl ?_
  refine c_geF (pc := 114) (n := n + 170) (cells := 170) (slots := 34323) (tgt := 136) K dX11_init_114 (by decide) (by decide) ?_
  refine c_aload_n (pc := 117) (n := n + 170) (cells := 170) (slots := 34323) K dX11_init_117 1 rfl ?_
  refine c_get (pc := 118) (n := n + 170) (cells := 170) (slots := 34323) (C := RX11) (T := TX11) (N := 11) (j := 1) K Oq120 Gq120_1 rfl rfl jn_X11 (by decide) (List.mem_cons_of_mem _ jl_X11_18) dX11_init_118 ?_
  refine c_iload_n (pc := 121) (n := n + 170) (cells := 170) (slots := 34323) K dX11_init_121 0 rfl ?_
  refine c_new (pc := 122) (n := n + 170) (cells := 170) (slots := 34323) (ci := 2) (C := RX2) (T := TX2) (N := 12) K [(2, 0), (2, 0), (2, 0), (2, 0), (2, 0), (2, 0), (2, 0), (0, 0), (0, 0), (0, 0), (0, 0), (0, 0)] rfl rfl jn_X2 tyX2 tyX2_ok (List.mem_cons_of_mem _ jl_X11_16) (List.mem_cons_of_mem _ jw_a_X2) (List.mem_cons_of_mem _ jw_n_X2) df_X2 (Nat.le_of_ble_eq_true rfl) (Nat.le_of_ble_eq_true rfl) dX11_init_122 ?_
  refine c_nm hF (fun f121 h122 hF => ?_)
  have Oq123 : isO f121 (n + 171) a 10 := by rw [h122]; exact Oq120.new
  have Kq123 : h_K f n a f121 := by rw [h122]; exact Kq120.new (by omega) hO.1
  have Gq123_1 : h_g f121 a 1 (1, (n + 2)) := by rw [h122]; exact Gq120_1.new (by have := hO.1; omega)
  have Gq123_5 : h_g f121 a 5 (1, (n + 103)) := by rw [h122]; exact Gq120_5.new (by have := hO.1; omega)
  have Rq123_2 : isR f121 (n + 171) (n + 2) 4 6 := by rw [h122]; exact Rq120_2.new
  have Rq123_103 : isR f121 (n + 171) (n + 103) 6 4 := by rw [h122]; exact Rq120_103.new
  have F0h122 : isO f121 (n + 171) (n + 170) 2 := by rw [h122]; exact isO.here rfl
  refine c_dup (pc := 125) (n := n + 171) (cells := 171) (slots := 34335) K dX11_init_125 rfl ?_
  refine c_callN (pc := 126) (n := n + 171) (cells := 171) (slots := 34335) (host := "TwoCards") K (kX2_init l F0h122 rfl) hQ.2.2.2.2 (jg_cons jw_c_X2_init) rfl rfl rfl (List.mem_cons_of_mem _ jw_n_X2) (by decide +kernel) (List.mem_cons_of_mem _ jw_i_X2_init) rfl jd_X2_init ⟨Nat.le_of_ble_eq_true rfl, Nat.le_of_ble_eq_true rfl⟩ (Nat.le_of_ble_eq_true rfl) (Nat.le_of_ble_eq_true rfl) (Nat.le_of_ble_eq_true rfl) dX11_init_126 ?_
  refine c_nm hF (fun f124 h125 hF => ?_)
  have Ch125 : h_K f121 (n + 171) (n + 170) f124 := by rw [h125]; exact wX2_init F0h122 rfl
  have Oq126 : isO f124 (n + 178) a 10 := Oq123.call Ch125 (by omega)
  have Kq126 : h_K f n a f124 := Kq123.call Ch125 (by omega) (by omega) hO.1
  have Fq126_170 : isO f124 (n + 178) (n + 170) 2 := F0h122.call Ch125 (by omega)
  have Gq126_1 : h_g f124 a 1 (1, (n + 2)) := Gq123_1.call Ch125 Oq123.1 (by have := hO.1; omega)
  have Gq126_5 : h_g f124 a 5 (1, (n + 103)) := Gq123_5.call Ch125 Oq123.1 (by have := hO.1; omega)
  have Rq126_2 : isR f124 (n + 178) (n + 2) 4 6 := Rq123_2.call Ch125 (by omega)
  have Rq126_103 : isR f124 (n + 178) (n + 103) 6 4 := Rq123_103.call Ch125 (by omega)
  refine c_aast (pc := 129) (n := n + 178) (cells := 178) (slots := 34725) (C := RX2) (T := TX2) (N := 12) K 4 Rq126_2 Fq126_170 rfl rfl (by decide) (by decide) dX11_init_129 ?_
  refine c_nm hF (fun f127 h128 hF => ?_)
  have Oq129 : isO f127 (n + 178) a 10 := by rw [h128]; exact Oq126.put
  have Kq129 : h_K f n a f127 := by rw [h128]; exact Kq126.far (by omega) hO.1
  have Fq129_179 : isO f127 (n + 178) (n + 170) 2 := by rw [h128]; exact Fq126_170.put
  have Gq129_1 : h_g f127 a 1 (1, (n + 2)) := by rw [h128]; exact Gq126_1.far (by have := hO.1; omega)
  have Gq129_5 : h_g f127 a 5 (1, (n + 103)) := by rw [h128]; exact Gq126_5.far (by have := hO.1; omega)
  have Rq129_2 : isR f127 (n + 178) (n + 2) 4 6 := by rw [h128]; exact Rq126_2.put
  have Rq129_103 : isR f127 (n + 178) (n + 103) 6 4 := by rw [h128]; exact Rq126_103.put
  refine c_iinc (pc := 130) (n := n + 178) (cells := 178) (slots := 34725) (v1 := 5) (lv' := [(1, .int 5), (0, .ref (B + a))]) K dX11_init_130 0 rfl (by decide) (by decide) rfl ?_
  refine c_goto (pc := 133) (n := n + 178) (cells := 178) (slots := 34725) (tgt := 111) K dX11_init_133 (by decide) ?_
  refine c_iload_n (pc := 111) (n := n + 178) (cells := 178) (slots := 34725) K dX11_init_111 0 rfl ?_
  refine c_bipush (pc := 112) (n := n + 178) (cells := 178) (slots := 34725) (v := 6) K dX11_init_112 rfl ?_
  refine c_geF (pc := 114) (n := n + 178) (cells := 178) (slots := 34725) (tgt := 136) K dX11_init_114 (by decide) (by decide) ?_
  refine c_aload_n (pc := 117) (n := n + 178) (cells := 178) (slots := 34725) K dX11_init_117 1 rfl ?_
  refine c_get (pc := 118) (n := n + 178) (cells := 178) (slots := 34725) (C := RX11) (T := TX11) (N := 11) (j := 1) K Oq129 Gq129_1 rfl rfl jn_X11 (by decide) (List.mem_cons_of_mem _ jl_X11_18) dX11_init_118 ?_
  refine c_iload_n (pc := 121) (n := n + 178) (cells := 178) (slots := 34725) K dX11_init_121 0 rfl ?_
  refine c_new (pc := 122) (n := n + 178) (cells := 178) (slots := 34725) (ci := 2) (C := RX2) (T := TX2) (N := 12) K [(2, 0), (2, 0), (2, 0), (2, 0), (2, 0), (2, 0), (2, 0), (0, 0), (0, 0), (0, 0), (0, 0), (0, 0)] rfl rfl jn_X2 tyX2 tyX2_ok (List.mem_cons_of_mem _ jl_X11_16) (List.mem_cons_of_mem _ jw_a_X2) (List.mem_cons_of_mem _ jw_n_X2) df_X2 (Nat.le_of_ble_eq_true rfl) (Nat.le_of_ble_eq_true rfl) dX11_init_122 ?_
  refine c_nm hF (fun f130 h131 hF => ?_)
  have Oq132 : isO f130 (n + 179) a 10 := by rw [h131]; exact Oq129.new
  have Kq132 : h_K f n a f130 := by rw [h131]; exact Kq129.new (by omega) hO.1
  have Gq132_1 : h_g f130 a 1 (1, (n + 2)) := by rw [h131]; exact Gq129_1.new (by have := hO.1; omega)
  have Gq132_5 : h_g f130 a 5 (1, (n + 103)) := by rw [h131]; exact Gq129_5.new (by have := hO.1; omega)
  have Rq132_2 : isR f130 (n + 179) (n + 2) 4 6 := by rw [h131]; exact Rq129_2.new
  have Rq132_103 : isR f130 (n + 179) (n + 103) 6 4 := by rw [h131]; exact Rq129_103.new
  have F0h131 : isO f130 (n + 179) (n + 178) 2 := by rw [h131]; exact isO.here rfl
  refine c_dup (pc := 125) (n := n + 179) (cells := 179) (slots := 34737) K dX11_init_125 rfl ?_
  refine c_callN (pc := 126) (n := n + 179) (cells := 179) (slots := 34737) (host := "TwoCards") K (kX2_init l F0h131 rfl) hQ.2.2.2.2 (jg_cons jw_c_X2_init) rfl rfl rfl (List.mem_cons_of_mem _ jw_n_X2) (by decide +kernel) (List.mem_cons_of_mem _ jw_i_X2_init) rfl jd_X2_init ⟨Nat.le_of_ble_eq_true rfl, Nat.le_of_ble_eq_true rfl⟩ (Nat.le_of_ble_eq_true rfl) (Nat.le_of_ble_eq_true rfl) (Nat.le_of_ble_eq_true rfl) dX11_init_126 ?_
  refine c_nm hF (fun f133 h134 hF => ?_)
  have Ch134 : h_K f130 (n + 179) (n + 178) f133 := by rw [h134]; exact wX2_init F0h131 rfl
  have Oq135 : isO f133 (n + 186) a 10 := Oq132.call Ch134 (by omega)
  have Kq135 : h_K f n a f133 := Kq132.call Ch134 (by omega) (by omega) hO.1
  have Fq135_178 : isO f133 (n + 186) (n + 178) 2 := F0h131.call Ch134 (by omega)
  have Gq135_1 : h_g f133 a 1 (1, (n + 2)) := Gq132_1.call Ch134 Oq132.1 (by have := hO.1; omega)
  have Gq135_5 : h_g f133 a 5 (1, (n + 103)) := Gq132_5.call Ch134 Oq132.1 (by have := hO.1; omega)
  have Rq135_2 : isR f133 (n + 186) (n + 2) 4 6 := Rq132_2.call Ch134 (by omega)
  have Rq135_103 : isR f133 (n + 186) (n + 103) 6 4 := Rq132_103.call Ch134 (by omega)
  refine c_aast (pc := 129) (n := n + 186) (cells := 186) (slots := 35127) (C := RX2) (T := TX2) (N := 12) K 5 Rq135_2 Fq135_178 rfl rfl (by decide) (by decide) dX11_init_129 ?_
  refine c_nm hF (fun f136 h137 hF => ?_)
  have Oq138 : isO f136 (n + 186) a 10 := by rw [h137]; exact Oq135.put
  have Kq138 : h_K f n a f136 := by rw [h137]; exact Kq135.far (by omega) hO.1
  have Fq138_187 : isO f136 (n + 186) (n + 178) 2 := by rw [h137]; exact Fq135_178.put
  have Gq138_1 : h_g f136 a 1 (1, (n + 2)) := by rw [h137]; exact Gq135_1.far (by have := hO.1; omega)
  have Gq138_5 : h_g f136 a 5 (1, (n + 103)) := by rw [h137]; exact Gq135_5.far (by have := hO.1; omega)
  have Rq138_2 : isR f136 (n + 186) (n + 2) 4 6 := by rw [h137]; exact Rq135_2.put
  have Rq138_103 : isR f136 (n + 186) (n + 103) 6 4 := by rw [h137]; exact Rq135_103.put
  refine c_iinc (pc := 130) (n := n + 186) (cells := 186) (slots := 35127) (v1 := 6) (lv' := [(1, .int 6), (0, .ref (B + a))]) K dX11_init_130 0 rfl (by decide) (by decide) rfl ?_
  refine c_goto (pc := 133) (n := n + 186) (cells := 186) (slots := 35127) (tgt := 111) K dX11_init_133 (by decide) ?_
  refine c_iload_n (pc := 111) (n := n + 186) (cells := 186) (slots := 35127) K dX11_init_111 0 rfl ?_
  refine c_bipush (pc := 112) (n := n + 186) (cells := 186) (slots := 35127) (v := 6) K dX11_init_112 rfl ?_
  refine c_geT (pc := 114) (n := n + 186) (cells := 186) (slots := 35127) (tgt := 136) K dX11_init_114 (by decide) (by decide) ?_
  refine c_iconst (pc := 136) (n := n + 186) (cells := 186) (slots := 35127) (v := 0) K dX11_init_136 rfl ?_
  refine c_istore_n (pc := 137) (n := n + 186) (cells := 186) (slots := 35127) (lv' := [(1, .int 0), (0, .ref (B + a))]) K dX11_init_137 1 rfl (by decide) rfl ?_
  refine c_iload_n (pc := 138) (n := n + 186) (cells := 186) (slots := 35127) K dX11_init_138 0 rfl ?_
  refine c_iconst (pc := 139) (n := n + 186) (cells := 186) (slots := 35127) (v := 4) K dX11_init_139 rfl ?_
  refine c_geF (pc := 140) (n := n + 186) (cells := 186) (slots := 35127) (tgt := 162) K dX11_init_140 (by decide) (by decide) ?_
  refine c_aload_n (pc := 143) (n := n + 186) (cells := 186) (slots := 35127) K dX11_init_143 1 rfl ?_
  refine c_get (pc := 144) (n := n + 186) (cells := 186) (slots := 35127) (C := RX11) (T := TX11) (N := 11) (j := 5) K Oq138 Gq138_5 rfl rfl jn_X11 (by decide) (List.mem_cons_of_mem _ jl_X11_41) dX11_init_144 ?_
  refine c_iload_n (pc := 147) (n := n + 186) (cells := 186) (slots := 35127) K dX11_init_147 0 rfl ?_
  refine c_new (pc := 148) (n := n + 186) (cells := 186) (slots := 35127) (ci := 1) (C := RX1) (T := TX1) (N := 9) K [(2, 0), (2, 0), (2, 0), (2, 0), (2, 0), (2, 0), (0, 0), (0, 0), (0, 0)] rfl rfl jn_X1 tyX1 tyX1_ok (List.mem_cons_of_mem _ jl_X11_34) (List.mem_cons_of_mem _ jw_a_X1) (List.mem_cons_of_mem _ jw_n_X1) df_X1 (Nat.le_of_ble_eq_true rfl) (Nat.le_of_ble_eq_true rfl) dX11_init_148 ?_
  refine c_nm hF (fun f139 h140 hF => ?_)
  have Oq141 : isO f139 (n + 187) a 10 := by rw [h140]; exact Oq138.new
  have Kq141 : h_K f n a f139 := by rw [h140]; exact Kq138.new (by omega) hO.1
  have Gq141_1 : h_g f139 a 1 (1, (n + 2)) := by rw [h140]; exact Gq138_1.new (by have := hO.1; omega)
  have Gq141_5 : h_g f139 a 5 (1, (n + 103)) := by rw [h140]; exact Gq138_5.new (by have := hO.1; omega)
  have Rq141_2 : isR f139 (n + 187) (n + 2) 4 6 := by rw [h140]; exact Rq138_2.new
  have Rq141_103 : isR f139 (n + 187) (n + 103) 6 4 := by rw [h140]; exact Rq138_103.new
  have F0h140 : isO f139 (n + 187) (n + 186) 1 := by rw [h140]; exact isO.here rfl
  refine c_dup (pc := 151) (n := n + 187) (cells := 187) (slots := 35136) K dX11_init_151 rfl ?_
  refine c_callI (pc := 152) (n := n + 187) (cells := 187) (slots := 35136) K (kX1_init l F0h140 rfl) hQ.2.2.2.2 (jg_cons jw_c_X1_init) rfl rfl rfl (List.mem_cons_of_mem _ jw_n_X1) (List.mem_cons_of_mem _ jl_X11_36) (List.mem_cons_of_mem _ jw_i_X1_init) rfl jd_X1_init ⟨Nat.le_of_ble_eq_true rfl, Nat.le_of_ble_eq_true rfl⟩ (Nat.le_of_ble_eq_true rfl) (Nat.le_of_ble_eq_true rfl) (Nat.le_of_ble_eq_true rfl) dX11_init_152 ?_
  refine c_nm hF (fun f142 h143 hF => ?_)
  have Ch143 : h_K f139 (n + 187) (n + 186) f142 := by rw [h143]; exact wX1_init F0h140 rfl
  have Oq144 : isO f142 (n + 265) a 10 := Oq141.call Ch143 (by omega)
  have Kq144 : h_K f n a f142 := Kq141.call Ch143 (by omega) (by omega) hO.1
  have Fq144_186 : isO f142 (n + 265) (n + 186) 1 := F0h140.call Ch143 (by omega)
  have Gq144_1 : h_g f142 a 1 (1, (n + 2)) := Gq141_1.call Ch143 Oq141.1 (by have := hO.1; omega)
  have Gq144_5 : h_g f142 a 5 (1, (n + 103)) := Gq141_5.call Ch143 Oq141.1 (by have := hO.1; omega)
  have Rq144_2 : isR f142 (n + 265) (n + 2) 4 6 := Rq141_2.call Ch143 (by omega)
  have Rq144_103 : isR f142 (n + 265) (n + 103) 6 4 := Rq141_103.call Ch143 (by omega)
  refine c_aast (pc := 155) (n := n + 265) (cells := 265) (slots := 35844) (C := RX1) (T := TX1) (N := 9) K 0 Rq144_103 Fq144_186 rfl rfl (by decide) (by decide) dX11_init_155 ?_
  refine c_nm hF (fun f145 h146 hF => ?_)
  have Oq147 : isO f145 (n + 265) a 10 := by rw [h146]; exact Oq144.put
  have Kq147 : h_K f n a f145 := by rw [h146]; exact Kq144.far (by omega) hO.1
  have Fq147_195 : isO f145 (n + 265) (n + 186) 1 := by rw [h146]; exact Fq144_186.put
  have Gq147_1 : h_g f145 a 1 (1, (n + 2)) := by rw [h146]; exact Gq144_1.far (by have := hO.1; omega)
  have Gq147_5 : h_g f145 a 5 (1, (n + 103)) := by rw [h146]; exact Gq144_5.far (by have := hO.1; omega)
  have Rq147_2 : isR f145 (n + 265) (n + 2) 4 6 := by rw [h146]; exact Rq144_2.put
  have Rq147_103 : isR f145 (n + 265) (n + 103) 6 4 := by rw [h146]; exact Rq144_103.put
  refine c_iinc (pc := 156) (n := n + 265) (cells := 265) (slots := 35844) (v1 := 1) (lv' := [(1, .int 1), (0, .ref (B + a))]) K dX11_init_156 0 rfl (by decide) (by decide) rfl ?_
  refine c_goto (pc := 159) (n := n + 265) (cells := 265) (slots := 35844) (tgt := 138) K dX11_init_159 (by decide) ?_
  refine c_iload_n (pc := 138) (n := n + 265) (cells := 265) (slots := 35844) K dX11_init_138 0 rfl ?_
  refine c_iconst (pc := 139) (n := n + 265) (cells := 265) (slots := 35844) (v := 4) K dX11_init_139 rfl ?_
  refine c_geF (pc := 140) (n := n + 265) (cells := 265) (slots := 35844) (tgt := 162) K dX11_init_140 (by decide) (by decide) ?_
  refine c_aload_n (pc := 143) (n := n + 265) (cells := 265) (slots := 35844) K dX11_init_143 1 rfl ?_
  refine c_get (pc := 144) (n := n + 265) (cells := 265) (slots := 35844) (C := RX11) (T := TX11) (N := 11) (j := 5) K Oq147 Gq147_5 rfl rfl jn_X11 (by decide) (List.mem_cons_of_mem _ jl_X11_41) dX11_init_144 ?_
  refine c_iload_n (pc := 147) (n := n + 265) (cells := 265) (slots := 35844) K dX11_init_147 0 rfl ?_
  refine c_new (pc := 148) (n := n + 265) (cells := 265) (slots := 35844) (ci := 1) (C := RX1) (T := TX1) (N := 9) K [(2, 0), (2, 0), (2, 0), (2, 0), (2, 0), (2, 0), (0, 0), (0, 0), (0, 0)] rfl rfl jn_X1 tyX1 tyX1_ok (List.mem_cons_of_mem _ jl_X11_34) (List.mem_cons_of_mem _ jw_a_X1) (List.mem_cons_of_mem _ jw_n_X1) df_X1 (Nat.le_of_ble_eq_true rfl) (Nat.le_of_ble_eq_true rfl) dX11_init_148 ?_
  refine c_nm hF (fun f148 h149 hF => ?_)
  have Oq150 : isO f148 (n + 266) a 10 := by rw [h149]; exact Oq147.new
  have Kq150 : h_K f n a f148 := by rw [h149]; exact Kq147.new (by omega) hO.1
  have Gq150_1 : h_g f148 a 1 (1, (n + 2)) := by rw [h149]; exact Gq147_1.new (by have := hO.1; omega)
  have Gq150_5 : h_g f148 a 5 (1, (n + 103)) := by rw [h149]; exact Gq147_5.new (by have := hO.1; omega)
  have Rq150_2 : isR f148 (n + 266) (n + 2) 4 6 := by rw [h149]; exact Rq147_2.new
  have Rq150_103 : isR f148 (n + 266) (n + 103) 6 4 := by rw [h149]; exact Rq147_103.new
  have F0h149 : isO f148 (n + 266) (n + 265) 1 := by rw [h149]; exact isO.here rfl
  refine c_dup (pc := 151) (n := n + 266) (cells := 266) (slots := 35853) K dX11_init_151 rfl ?_
  refine c_callI (pc := 152) (n := n + 266) (cells := 266) (slots := 35853) K (kX1_init l F0h149 rfl) hQ.2.2.2.2 (jg_cons jw_c_X1_init) rfl rfl rfl (List.mem_cons_of_mem _ jw_n_X1) (List.mem_cons_of_mem _ jl_X11_36) (List.mem_cons_of_mem _ jw_i_X1_init) rfl jd_X1_init ⟨Nat.le_of_ble_eq_true rfl, Nat.le_of_ble_eq_true rfl⟩ (Nat.le_of_ble_eq_true rfl) (Nat.le_of_ble_eq_true rfl) (Nat.le_of_ble_eq_true rfl) dX11_init_152 ?_
  refine c_nm hF (fun f151 h152 hF => ?_)
  have Ch152 : h_K f148 (n + 266) (n + 265) f151 := by rw [h152]; exact wX1_init F0h149 rfl
  have Oq153 : isO f151 (n + 344) a 10 := Oq150.call Ch152 (by omega)
  have Kq153 : h_K f n a f151 := Kq150.call Ch152 (by omega) (by omega) hO.1
  have Fq153_265 : isO f151 (n + 344) (n + 265) 1 := F0h149.call Ch152 (by omega)
  have Gq153_1 : h_g f151 a 1 (1, (n + 2)) := Gq150_1.call Ch152 Oq150.1 (by have := hO.1; omega)
  have Gq153_5 : h_g f151 a 5 (1, (n + 103)) := Gq150_5.call Ch152 Oq150.1 (by have := hO.1; omega)
  have Rq153_2 : isR f151 (n + 344) (n + 2) 4 6 := Rq150_2.call Ch152 (by omega)
  have Rq153_103 : isR f151 (n + 344) (n + 103) 6 4 := Rq150_103.call Ch152 (by omega)
  refine c_aast (pc := 155) (n := n + 344) (cells := 344) (slots := 36561) (C := RX1) (T := TX1) (N := 9) K 1 Rq153_103 Fq153_265 rfl rfl (by decide) (by decide) dX11_init_155 ?_
  refine c_nm hF (fun f154 h155 hF => ?_)
  have Oq156 : isO f154 (n + 344) a 10 := by rw [h155]; exact Oq153.put
  have Kq156 : h_K f n a f154 := by rw [h155]; exact Kq153.far (by omega) hO.1
  have Fq156_274 : isO f154 (n + 344) (n + 265) 1 := by rw [h155]; exact Fq153_265.put
  have Gq156_1 : h_g f154 a 1 (1, (n + 2)) := by rw [h155]; exact Gq153_1.far (by have := hO.1; omega)
  have Gq156_5 : h_g f154 a 5 (1, (n + 103)) := by rw [h155]; exact Gq153_5.far (by have := hO.1; omega)
  have Rq156_2 : isR f154 (n + 344) (n + 2) 4 6 := by rw [h155]; exact Rq153_2.put
  have Rq156_103 : isR f154 (n + 344) (n + 103) 6 4 := by rw [h155]; exact Rq153_103.put
  refine c_iinc (pc := 156) (n := n + 344) (cells := 344) (slots := 36561) (v1 := 2) (lv' := [(1, .int 2), (0, .ref (B + a))]) K dX11_init_156 0 rfl (by decide) (by decide) rfl ?_
  refine c_goto (pc := 159) (n := n + 344) (cells := 344) (slots := 36561) (tgt := 138) K dX11_init_159 (by decide) ?_
  refine c_iload_n (pc := 138) (n := n + 344) (cells := 344) (slots := 36561) K dX11_init_138 0 rfl ?_
  refine c_iconst (pc := 139) (n := n + 344) (cells := 344) (slots := 36561) (v := 4) K dX11_init_139 rfl ?_
  refine c_geF (pc := 140) (n := n + 344) (cells := 344) (slots := 36561) (tgt := 162) K dX11_init_140 (by decide) (by decide) ?_
  refine c_aload_n (pc := 143) (n := n + 344) (cells := 344) (slots := 36561) K dX11_init_143 1 rfl ?_
  refine c_get (pc := 144) (n := n + 344) (cells := 344) (slots := 36561) (C := RX11) (T := TX11) (N := 11) (j := 5) K Oq156 Gq156_5 rfl rfl jn_X11 (by decide) (List.mem_cons_of_mem _ jl_X11_41) dX11_init_144 ?_
  refine c_iload_n (pc := 147) (n := n + 344) (cells := 344) (slots := 36561) K dX11_init_147 0 rfl ?_
  refine c_new (pc := 148) (n := n + 344) (cells := 344) (slots := 36561) (ci := 1) (C := RX1) (T := TX1) (N := 9) K [(2, 0), (2, 0), (2, 0), (2, 0), (2, 0), (2, 0), (0, 0), (0, 0), (0, 0)] rfl rfl jn_X1 tyX1 tyX1_ok (List.mem_cons_of_mem _ jl_X11_34) (List.mem_cons_of_mem _ jw_a_X1) (List.mem_cons_of_mem _ jw_n_X1) df_X1 (Nat.le_of_ble_eq_true rfl) (Nat.le_of_ble_eq_true rfl) dX11_init_148 ?_
  refine c_nm hF (fun f157 h158 hF => ?_)
  have Oq159 : isO f157 (n + 345) a 10 := by rw [h158]; exact Oq156.new
  have Kq159 : h_K f n a f157 := by rw [h158]; exact Kq156.new (by omega) hO.1
  have Gq159_1 : h_g f157 a 1 (1, (n + 2)) := by rw [h158]; exact Gq156_1.new (by have := hO.1; omega)
  have Gq159_5 : h_g f157 a 5 (1, (n + 103)) := by rw [h158]; exact Gq156_5.new (by have := hO.1; omega)
  have Rq159_2 : isR f157 (n + 345) (n + 2) 4 6 := by rw [h158]; exact Rq156_2.new
  have Rq159_103 : isR f157 (n + 345) (n + 103) 6 4 := by rw [h158]; exact Rq156_103.new
  have F0h158 : isO f157 (n + 345) (n + 344) 1 := by rw [h158]; exact isO.here rfl
  refine c_dup (pc := 151) (n := n + 345) (cells := 345) (slots := 36570) K dX11_init_151 rfl ?_
  refine c_callI (pc := 152) (n := n + 345) (cells := 345) (slots := 36570) K (kX1_init l F0h158 rfl) hQ.2.2.2.2 (jg_cons jw_c_X1_init) rfl rfl rfl (List.mem_cons_of_mem _ jw_n_X1) (List.mem_cons_of_mem _ jl_X11_36) (List.mem_cons_of_mem _ jw_i_X1_init) rfl jd_X1_init ⟨Nat.le_of_ble_eq_true rfl, Nat.le_of_ble_eq_true rfl⟩ (Nat.le_of_ble_eq_true rfl) (Nat.le_of_ble_eq_true rfl) (Nat.le_of_ble_eq_true rfl) dX11_init_152 ?_
  refine c_nm hF (fun f160 h161 hF => ?_)
  have Ch161 : h_K f157 (n + 345) (n + 344) f160 := by rw [h161]; exact wX1_init F0h158 rfl
  have Oq162 : isO f160 (n + 423) a 10 := Oq159.call Ch161 (by omega)
  have Kq162 : h_K f n a f160 := Kq159.call Ch161 (by omega) (by omega) hO.1
  have Fq162_344 : isO f160 (n + 423) (n + 344) 1 := F0h158.call Ch161 (by omega)
  have Gq162_1 : h_g f160 a 1 (1, (n + 2)) := Gq159_1.call Ch161 Oq159.1 (by have := hO.1; omega)
  have Gq162_5 : h_g f160 a 5 (1, (n + 103)) := Gq159_5.call Ch161 Oq159.1 (by have := hO.1; omega)
  have Rq162_2 : isR f160 (n + 423) (n + 2) 4 6 := Rq159_2.call Ch161 (by omega)
  have Rq162_103 : isR f160 (n + 423) (n + 103) 6 4 := Rq159_103.call Ch161 (by omega)
  refine c_aast (pc := 155) (n := n + 423) (cells := 423) (slots := 37278) (C := RX1) (T := TX1) (N := 9) K 2 Rq162_103 Fq162_344 rfl rfl (by decide) (by decide) dX11_init_155 ?_
  refine c_nm hF (fun f163 h164 hF => ?_)
  have Oq165 : isO f163 (n + 423) a 10 := by rw [h164]; exact Oq162.put
  have Kq165 : h_K f n a f163 := by rw [h164]; exact Kq162.far (by omega) hO.1
  have Fq165_353 : isO f163 (n + 423) (n + 344) 1 := by rw [h164]; exact Fq162_344.put
  have Gq165_1 : h_g f163 a 1 (1, (n + 2)) := by rw [h164]; exact Gq162_1.far (by have := hO.1; omega)
  have Gq165_5 : h_g f163 a 5 (1, (n + 103)) := by rw [h164]; exact Gq162_5.far (by have := hO.1; omega)
  have Rq165_2 : isR f163 (n + 423) (n + 2) 4 6 := by rw [h164]; exact Rq162_2.put
  have Rq165_103 : isR f163 (n + 423) (n + 103) 6 4 := by rw [h164]; exact Rq162_103.put
  refine c_iinc (pc := 156) (n := n + 423) (cells := 423) (slots := 37278) (v1 := 3) (lv' := [(1, .int 3), (0, .ref (B + a))]) K dX11_init_156 0 rfl (by decide) (by decide) rfl ?_
  refine c_goto (pc := 159) (n := n + 423) (cells := 423) (slots := 37278) (tgt := 138) K dX11_init_159 (by decide) ?_
  refine c_iload_n (pc := 138) (n := n + 423) (cells := 423) (slots := 37278) K dX11_init_138 0 rfl ?_
  refine c_iconst (pc := 139) (n := n + 423) (cells := 423) (slots := 37278) (v := 4) K dX11_init_139 rfl ?_
  refine c_geF (pc := 140) (n := n + 423) (cells := 423) (slots := 37278) (tgt := 162) K dX11_init_140 (by decide) (by decide) ?_
  refine c_aload_n (pc := 143) (n := n + 423) (cells := 423) (slots := 37278) K dX11_init_143 1 rfl ?_
  refine c_get (pc := 144) (n := n + 423) (cells := 423) (slots := 37278) (C := RX11) (T := TX11) (N := 11) (j := 5) K Oq165 Gq165_5 rfl rfl jn_X11 (by decide) (List.mem_cons_of_mem _ jl_X11_41) dX11_init_144 ?_
  refine c_iload_n (pc := 147) (n := n + 423) (cells := 423) (slots := 37278) K dX11_init_147 0 rfl ?_
  refine c_new (pc := 148) (n := n + 423) (cells := 423) (slots := 37278) (ci := 1) (C := RX1) (T := TX1) (N := 9) K [(2, 0), (2, 0), (2, 0), (2, 0), (2, 0), (2, 0), (0, 0), (0, 0), (0, 0)] rfl rfl jn_X1 tyX1 tyX1_ok (List.mem_cons_of_mem _ jl_X11_34) (List.mem_cons_of_mem _ jw_a_X1) (List.mem_cons_of_mem _ jw_n_X1) df_X1 (Nat.le_of_ble_eq_true rfl) (Nat.le_of_ble_eq_true rfl) dX11_init_148 ?_
  refine c_nm hF (fun f166 h167 hF => ?_)
  have Oq168 : isO f166 (n + 424) a 10 := by rw [h167]; exact Oq165.new
  have Kq168 : h_K f n a f166 := by rw [h167]; exact Kq165.new (by omega) hO.1
  have Gq168_1 : h_g f166 a 1 (1, (n + 2)) := by rw [h167]; exact Gq165_1.new (by have := hO.1; omega)
  have Gq168_5 : h_g f166 a 5 (1, (n + 103)) := by rw [h167]; exact Gq165_5.new (by have := hO.1; omega)
  have Rq168_2 : isR f166 (n + 424) (n + 2) 4 6 := by rw [h167]; exact Rq165_2.new
  have Rq168_103 : isR f166 (n + 424) (n + 103) 6 4 := by rw [h167]; exact Rq165_103.new
  have F0h167 : isO f166 (n + 424) (n + 423) 1 := by rw [h167]; exact isO.here rfl
  refine c_dup (pc := 151) (n := n + 424) (cells := 424) (slots := 37287) K dX11_init_151 rfl ?_
  refine c_callI (pc := 152) (n := n + 424) (cells := 424) (slots := 37287) K (kX1_init l F0h167 rfl) hQ.2.2.2.2 (jg_cons jw_c_X1_init) rfl rfl rfl (List.mem_cons_of_mem _ jw_n_X1) (List.mem_cons_of_mem _ jl_X11_36) (List.mem_cons_of_mem _ jw_i_X1_init) rfl jd_X1_init ⟨Nat.le_of_ble_eq_true rfl, Nat.le_of_ble_eq_true rfl⟩ (Nat.le_of_ble_eq_true rfl) (Nat.le_of_ble_eq_true rfl) (Nat.le_of_ble_eq_true rfl) dX11_init_152 ?_
  refine c_nm hF (fun f169 h170 hF => ?_)
  have Ch170 : h_K f166 (n + 424) (n + 423) f169 := by rw [h170]; exact wX1_init F0h167 rfl
  have Oq171 : isO f169 (n + 502) a 10 := Oq168.call Ch170 (by omega)
  have Kq171 : h_K f n a f169 := Kq168.call Ch170 (by omega) (by omega) hO.1
  have Fq171_423 : isO f169 (n + 502) (n + 423) 1 := F0h167.call Ch170 (by omega)
  have Gq171_1 : h_g f169 a 1 (1, (n + 2)) := Gq168_1.call Ch170 Oq168.1 (by have := hO.1; omega)
  have Gq171_5 : h_g f169 a 5 (1, (n + 103)) := Gq168_5.call Ch170 Oq168.1 (by have := hO.1; omega)
  have Rq171_2 : isR f169 (n + 502) (n + 2) 4 6 := Rq168_2.call Ch170 (by omega)
  have Rq171_103 : isR f169 (n + 502) (n + 103) 6 4 := Rq168_103.call Ch170 (by omega)
  refine c_aast (pc := 155) (n := n + 502) (cells := 502) (slots := 37995) (C := RX1) (T := TX1) (N := 9) K 3 Rq171_103 Fq171_423 rfl rfl (by decide) (by decide) dX11_init_155 ?_
  refine c_nm hF (fun f172 h173 hF => ?_)
  have Oq174 : isO f172 (n + 502) a 10 := by rw [h173]; exact Oq171.put
  have Kq174 : h_K f n a f172 := by rw [h173]; exact Kq171.far (by omega) hO.1
  have Fq174_432 : isO f172 (n + 502) (n + 423) 1 := by rw [h173]; exact Fq171_423.put
  have Gq174_1 : h_g f172 a 1 (1, (n + 2)) := by rw [h173]; exact Gq171_1.far (by have := hO.1; omega)
  have Gq174_5 : h_g f172 a 5 (1, (n + 103)) := by rw [h173]; exact Gq171_5.far (by have := hO.1; omega)
  have Rq174_2 : isR f172 (n + 502) (n + 2) 4 6 := by rw [h173]; exact Rq171_2.put
  have Rq174_103 : isR f172 (n + 502) (n + 103) 6 4 := by rw [h173]; exact Rq171_103.put
  refine c_iinc (pc := 156) (n := n + 502) (cells := 502) (slots := 37995) (v1 := 4) (lv' := [(1, .int 4), (0, .ref (B + a))]) K dX11_init_156 0 rfl (by decide) (by decide) rfl ?_
  refine c_goto (pc := 159) (n := n + 502) (cells := 502) (slots := 37995) (tgt := 138) K dX11_init_159 (by decide) ?_
  refine c_iload_n (pc := 138) (n := n + 502) (cells := 502) (slots := 37995) K dX11_init_138 0 rfl ?_
  refine c_iconst (pc := 139) (n := n + 502) (cells := 502) (slots := 37995) (v := 4) K dX11_init_139 rfl ?_
  refine c_geT (pc := 140) (n := n + 502) (cells := 502) (slots := 37995) (tgt := 162) K dX11_init_140 (by decide) (by decide) ?_
  subst hF
  exact c_ret (pc := 162) K hQ dX11_init_162
-- ===== the making of TwoCardsModel
theorem jd_X12_init : yX12_init.cls ≠ "java/lang/invoke/MethodHandle" ∧ yX12_init.cls ≠ "java/lang/invoke/VarHandle" ∧ (parseMethodDescriptor yX12_init.desc).map (fun d => d.parameters.length) = some 0 := by decide +kernel
abbrev rmX12_init : Room := { frames := 1, cells := 26, slots := 95332, locals := 20 }
abbrev wqX12_init : List Cond := .code yX12_init cX12_init 1 none :: wsL_law
def gX12_init (n : Nat) (f : FH) (a : Nat) : FH := h_t (h_u f (n) (1, 0, [(0, 48)])) fun f1 => h_t (h_p f1 a 1 (1, n)) fun f4 => h_t (h_u f4 (n + 1) (1, 0, [(0, 144)])) fun f7 => h_t (h_p f7 a 2 (1, (n + 1))) fun f10 => h_t (h_u f10 (n + 2) (1, 2, [(0, 400)])) fun f13 => h_t (h_p f13 a 3 (1, (n + 2))) fun f16 => h_t (h_u f16 (n + 3) (1, 0, [(0, 2400)])) fun f19 => h_t (h_p f19 a 6 (1, (n + 3))) fun f22 => h_t (h_u f22 (n + 4) (1, 0, [(0, 6)])) fun f25 => h_t (h_p f25 a 7 (1, (n + 4))) fun f28 => h_t (h_u f28 (n + 5) (1, 0, [(0, 420)])) fun f31 => h_t (h_p f31 a 8 (1, (n + 5))) fun f34 => h_t (h_u f34 (n + 6) (1, 0, [(0, 6)])) fun f37 => h_t (h_p f37 a 9 (1, (n + 6))) fun f40 => h_t (h_u f40 (n + 7) (1, 0, [(0, 6)])) fun f43 => h_t (h_p f43 a 10 (1, (n + 7))) fun f46 => h_t (h_u f46 (n + 8) (1, 0, [(0, 6)])) fun f49 => h_t (h_p f49 a 11 (1, (n + 8))) fun f52 => h_t (h_u f52 (n + 9) (1, 0, [(0, 6)])) fun f55 => h_t (h_p f55 a 12 (1, (n + 9))) fun f58 => h_t (h_u f58 (n + 10) (1, 0, [(0, 6)])) fun f61 => h_t (h_p f61 a 13 (1, (n + 10))) fun f64 => h_t (h_u f64 (n + 11) (1, 0, [(0, 400)])) fun f67 => h_t (h_p f67 a 20 (1, (n + 11))) fun f70 => h_t (h_u f70 (n + 12) (1, 0, [(0, 10)])) fun f73 => h_t (h_p f73 a 22 (1, (n + 12))) fun f76 => h_t (h_u f76 (n + 13) (1, 0, [(0, 64)])) fun f79 => h_t (h_p f79 a 23 (1, (n + 13))) fun f82 => h_t (h_u f82 (n + 14) (1, 0, [(0, 2)])) fun f85 => h_t (h_p f85 a 26 (1, (n + 14))) fun f88 => h_t (h_u f88 (n + 15) (1, 0, [(0, 2)])) fun f91 => h_t (h_p f91 a 27 (1, (n + 15))) fun f94 => h_t (h_u f94 (n + 16) (1, 0, [(0, 2)])) fun f97 => h_t (h_p f97 a 30 (1, (n + 16))) fun f100 => h_t (h_u f100 (n + 17) (1, 3, [(0, 13824)])) fun f103 => h_t (h_p f103 a 36 (1, (n + 17))) fun f106 => h_t (h_u f106 (n + 18) (1, 0, [(0, 13824)])) fun f109 => h_t (h_p f109 a 37 (1, (n + 18))) fun f112 => h_t (h_u f112 (n + 19) (1, 0, [(0, 13824)])) fun f115 => h_t (h_p f115 a 38 (1, (n + 19))) fun f118 => h_t (h_u f118 (n + 20) (1, 0, [(0, 13824)])) fun f121 => h_t (h_p f121 a 39 (1, (n + 20))) fun f124 => h_t (h_u f124 (n + 21) (1, 1, [(0, 13824)])) fun f127 => h_t (h_p f127 a 40 (1, (n + 21))) fun f130 => h_t (h_u f130 (n + 22) (1, 0, [(0, 13824)])) fun f133 => h_t (h_p f133 a 41 (1, (n + 22))) fun f136 => h_t (h_u f136 (n + 23) (1, 0, [(0, 1536)])) fun f139 => h_t (h_p f139 a 43 (1, (n + 23))) fun f142 => h_t (h_u f142 (n + 24) (1, 0, [(0, 6920)])) fun f145 => h_t (h_p f145 a 44 (1, (n + 24))) fun f148 => h_t (h_u f148 (n + 25) (1, 3, [(0, 4)])) fun f151 => h_t (h_p f151 a 45 (1, (n + 25))) fun f154 => f154
set_option maxRecDepth 100000 in
set_option maxHeartbeats 8000000 in
theorem wX12_init {n a : Nat} {f f1 : FH} (hO : isO f n a 11) (hF : gX12_init n f a = f1) : h_K f n a f1 := by
  unfold gX12_init at hF
  obtain ⟨f1, h2, hF⟩ := h_tE hF
  have Oq3 : isO f1 (n + 1) a 11 := by rw [h2]; exact hO.new
  have Kq3 : h_K f n a f1 := by rw [h2]; exact (h_K.rf (f := f) (n := n) (a := a)).new (by omega) hO.1
  obtain ⟨f4, h5, hF⟩ := h_tE hF
  have Oq6 : isO f4 (n + 1) a 11 := by rw [h5]; exact Oq3.put
  have Kq6 : h_K f n a f4 := by rw [h5]; exact Kq3.put
  obtain ⟨f7, h8, hF⟩ := h_tE hF
  have Oq9 : isO f7 (n + 2) a 11 := by rw [h8]; exact Oq6.new
  have Kq9 : h_K f n a f7 := by rw [h8]; exact Kq6.new (by omega) hO.1
  obtain ⟨f10, h11, hF⟩ := h_tE hF
  have Oq12 : isO f10 (n + 2) a 11 := by rw [h11]; exact Oq9.put
  have Kq12 : h_K f n a f10 := by rw [h11]; exact Kq9.put
  obtain ⟨f13, h14, hF⟩ := h_tE hF
  have Oq15 : isO f13 (n + 3) a 11 := by rw [h14]; exact Oq12.new
  have Kq15 : h_K f n a f13 := by rw [h14]; exact Kq12.new (by omega) hO.1
  obtain ⟨f16, h17, hF⟩ := h_tE hF
  have Oq18 : isO f16 (n + 3) a 11 := by rw [h17]; exact Oq15.put
  have Kq18 : h_K f n a f16 := by rw [h17]; exact Kq15.put
  obtain ⟨f19, h20, hF⟩ := h_tE hF
  have Oq21 : isO f19 (n + 4) a 11 := by rw [h20]; exact Oq18.new
  have Kq21 : h_K f n a f19 := by rw [h20]; exact Kq18.new (by omega) hO.1
  obtain ⟨f22, h23, hF⟩ := h_tE hF
  have Oq24 : isO f22 (n + 4) a 11 := by rw [h23]; exact Oq21.put
  have Kq24 : h_K f n a f22 := by rw [h23]; exact Kq21.put
  obtain ⟨f25, h26, hF⟩ := h_tE hF
  have Oq27 : isO f25 (n + 5) a 11 := by rw [h26]; exact Oq24.new
  have Kq27 : h_K f n a f25 := by rw [h26]; exact Kq24.new (by omega) hO.1
  obtain ⟨f28, h29, hF⟩ := h_tE hF
  have Oq30 : isO f28 (n + 5) a 11 := by rw [h29]; exact Oq27.put
  have Kq30 : h_K f n a f28 := by rw [h29]; exact Kq27.put
  obtain ⟨f31, h32, hF⟩ := h_tE hF
  have Oq33 : isO f31 (n + 6) a 11 := by rw [h32]; exact Oq30.new
  have Kq33 : h_K f n a f31 := by rw [h32]; exact Kq30.new (by omega) hO.1
  obtain ⟨f34, h35, hF⟩ := h_tE hF
  have Oq36 : isO f34 (n + 6) a 11 := by rw [h35]; exact Oq33.put
  have Kq36 : h_K f n a f34 := by rw [h35]; exact Kq33.put
  obtain ⟨f37, h38, hF⟩ := h_tE hF
  have Oq39 : isO f37 (n + 7) a 11 := by rw [h38]; exact Oq36.new
  have Kq39 : h_K f n a f37 := by rw [h38]; exact Kq36.new (by omega) hO.1
  obtain ⟨f40, h41, hF⟩ := h_tE hF
  have Oq42 : isO f40 (n + 7) a 11 := by rw [h41]; exact Oq39.put
  have Kq42 : h_K f n a f40 := by rw [h41]; exact Kq39.put
  obtain ⟨f43, h44, hF⟩ := h_tE hF
  have Oq45 : isO f43 (n + 8) a 11 := by rw [h44]; exact Oq42.new
  have Kq45 : h_K f n a f43 := by rw [h44]; exact Kq42.new (by omega) hO.1
  obtain ⟨f46, h47, hF⟩ := h_tE hF
  have Oq48 : isO f46 (n + 8) a 11 := by rw [h47]; exact Oq45.put
  have Kq48 : h_K f n a f46 := by rw [h47]; exact Kq45.put
  obtain ⟨f49, h50, hF⟩ := h_tE hF
  have Oq51 : isO f49 (n + 9) a 11 := by rw [h50]; exact Oq48.new
  have Kq51 : h_K f n a f49 := by rw [h50]; exact Kq48.new (by omega) hO.1
  obtain ⟨f52, h53, hF⟩ := h_tE hF
  have Oq54 : isO f52 (n + 9) a 11 := by rw [h53]; exact Oq51.put
  have Kq54 : h_K f n a f52 := by rw [h53]; exact Kq51.put
  obtain ⟨f55, h56, hF⟩ := h_tE hF
  have Oq57 : isO f55 (n + 10) a 11 := by rw [h56]; exact Oq54.new
  have Kq57 : h_K f n a f55 := by rw [h56]; exact Kq54.new (by omega) hO.1
  obtain ⟨f58, h59, hF⟩ := h_tE hF
  have Oq60 : isO f58 (n + 10) a 11 := by rw [h59]; exact Oq57.put
  have Kq60 : h_K f n a f58 := by rw [h59]; exact Kq57.put
  obtain ⟨f61, h62, hF⟩ := h_tE hF
  have Oq63 : isO f61 (n + 11) a 11 := by rw [h62]; exact Oq60.new
  have Kq63 : h_K f n a f61 := by rw [h62]; exact Kq60.new (by omega) hO.1
  obtain ⟨f64, h65, hF⟩ := h_tE hF
  have Oq66 : isO f64 (n + 11) a 11 := by rw [h65]; exact Oq63.put
  have Kq66 : h_K f n a f64 := by rw [h65]; exact Kq63.put
  obtain ⟨f67, h68, hF⟩ := h_tE hF
  have Oq69 : isO f67 (n + 12) a 11 := by rw [h68]; exact Oq66.new
  have Kq69 : h_K f n a f67 := by rw [h68]; exact Kq66.new (by omega) hO.1
  obtain ⟨f70, h71, hF⟩ := h_tE hF
  have Oq72 : isO f70 (n + 12) a 11 := by rw [h71]; exact Oq69.put
  have Kq72 : h_K f n a f70 := by rw [h71]; exact Kq69.put
  obtain ⟨f73, h74, hF⟩ := h_tE hF
  have Oq75 : isO f73 (n + 13) a 11 := by rw [h74]; exact Oq72.new
  have Kq75 : h_K f n a f73 := by rw [h74]; exact Kq72.new (by omega) hO.1
  obtain ⟨f76, h77, hF⟩ := h_tE hF
  have Oq78 : isO f76 (n + 13) a 11 := by rw [h77]; exact Oq75.put
  have Kq78 : h_K f n a f76 := by rw [h77]; exact Kq75.put
  obtain ⟨f79, h80, hF⟩ := h_tE hF
  have Oq81 : isO f79 (n + 14) a 11 := by rw [h80]; exact Oq78.new
  have Kq81 : h_K f n a f79 := by rw [h80]; exact Kq78.new (by omega) hO.1
  obtain ⟨f82, h83, hF⟩ := h_tE hF
  have Oq84 : isO f82 (n + 14) a 11 := by rw [h83]; exact Oq81.put
  have Kq84 : h_K f n a f82 := by rw [h83]; exact Kq81.put
  obtain ⟨f85, h86, hF⟩ := h_tE hF
  have Oq87 : isO f85 (n + 15) a 11 := by rw [h86]; exact Oq84.new
  have Kq87 : h_K f n a f85 := by rw [h86]; exact Kq84.new (by omega) hO.1
  obtain ⟨f88, h89, hF⟩ := h_tE hF
  have Oq90 : isO f88 (n + 15) a 11 := by rw [h89]; exact Oq87.put
  have Kq90 : h_K f n a f88 := by rw [h89]; exact Kq87.put
  obtain ⟨f91, h92, hF⟩ := h_tE hF
  have Oq93 : isO f91 (n + 16) a 11 := by rw [h92]; exact Oq90.new
  have Kq93 : h_K f n a f91 := by rw [h92]; exact Kq90.new (by omega) hO.1
  obtain ⟨f94, h95, hF⟩ := h_tE hF
  have Oq96 : isO f94 (n + 16) a 11 := by rw [h95]; exact Oq93.put
  have Kq96 : h_K f n a f94 := by rw [h95]; exact Kq93.put
  obtain ⟨f97, h98, hF⟩ := h_tE hF
  have Oq99 : isO f97 (n + 17) a 11 := by rw [h98]; exact Oq96.new
  have Kq99 : h_K f n a f97 := by rw [h98]; exact Kq96.new (by omega) hO.1
  obtain ⟨f100, h101, hF⟩ := h_tE hF
  have Oq102 : isO f100 (n + 17) a 11 := by rw [h101]; exact Oq99.put
  have Kq102 : h_K f n a f100 := by rw [h101]; exact Kq99.put
  obtain ⟨f103, h104, hF⟩ := h_tE hF
  have Oq105 : isO f103 (n + 18) a 11 := by rw [h104]; exact Oq102.new
  have Kq105 : h_K f n a f103 := by rw [h104]; exact Kq102.new (by omega) hO.1
  obtain ⟨f106, h107, hF⟩ := h_tE hF
  have Oq108 : isO f106 (n + 18) a 11 := by rw [h107]; exact Oq105.put
  have Kq108 : h_K f n a f106 := by rw [h107]; exact Kq105.put
  obtain ⟨f109, h110, hF⟩ := h_tE hF
  have Oq111 : isO f109 (n + 19) a 11 := by rw [h110]; exact Oq108.new
  have Kq111 : h_K f n a f109 := by rw [h110]; exact Kq108.new (by omega) hO.1
  obtain ⟨f112, h113, hF⟩ := h_tE hF
  have Oq114 : isO f112 (n + 19) a 11 := by rw [h113]; exact Oq111.put
  have Kq114 : h_K f n a f112 := by rw [h113]; exact Kq111.put
  obtain ⟨f115, h116, hF⟩ := h_tE hF
  have Oq117 : isO f115 (n + 20) a 11 := by rw [h116]; exact Oq114.new
  have Kq117 : h_K f n a f115 := by rw [h116]; exact Kq114.new (by omega) hO.1
  obtain ⟨f118, h119, hF⟩ := h_tE hF
  have Oq120 : isO f118 (n + 20) a 11 := by rw [h119]; exact Oq117.put
  have Kq120 : h_K f n a f118 := by rw [h119]; exact Kq117.put
  obtain ⟨f121, h122, hF⟩ := h_tE hF
  have Oq123 : isO f121 (n + 21) a 11 := by rw [h122]; exact Oq120.new
  have Kq123 : h_K f n a f121 := by rw [h122]; exact Kq120.new (by omega) hO.1
  obtain ⟨f124, h125, hF⟩ := h_tE hF
  have Oq126 : isO f124 (n + 21) a 11 := by rw [h125]; exact Oq123.put
  have Kq126 : h_K f n a f124 := by rw [h125]; exact Kq123.put
  obtain ⟨f127, h128, hF⟩ := h_tE hF
  have Oq129 : isO f127 (n + 22) a 11 := by rw [h128]; exact Oq126.new
  have Kq129 : h_K f n a f127 := by rw [h128]; exact Kq126.new (by omega) hO.1
  obtain ⟨f130, h131, hF⟩ := h_tE hF
  have Oq132 : isO f130 (n + 22) a 11 := by rw [h131]; exact Oq129.put
  have Kq132 : h_K f n a f130 := by rw [h131]; exact Kq129.put
  obtain ⟨f133, h134, hF⟩ := h_tE hF
  have Oq135 : isO f133 (n + 23) a 11 := by rw [h134]; exact Oq132.new
  have Kq135 : h_K f n a f133 := by rw [h134]; exact Kq132.new (by omega) hO.1
  obtain ⟨f136, h137, hF⟩ := h_tE hF
  have Oq138 : isO f136 (n + 23) a 11 := by rw [h137]; exact Oq135.put
  have Kq138 : h_K f n a f136 := by rw [h137]; exact Kq135.put
  obtain ⟨f139, h140, hF⟩ := h_tE hF
  have Oq141 : isO f139 (n + 24) a 11 := by rw [h140]; exact Oq138.new
  have Kq141 : h_K f n a f139 := by rw [h140]; exact Kq138.new (by omega) hO.1
  obtain ⟨f142, h143, hF⟩ := h_tE hF
  have Oq144 : isO f142 (n + 24) a 11 := by rw [h143]; exact Oq141.put
  have Kq144 : h_K f n a f142 := by rw [h143]; exact Kq141.put
  obtain ⟨f145, h146, hF⟩ := h_tE hF
  have Oq147 : isO f145 (n + 25) a 11 := by rw [h146]; exact Oq144.new
  have Kq147 : h_K f n a f145 := by rw [h146]; exact Kq144.new (by omega) hO.1
  obtain ⟨f148, h149, hF⟩ := h_tE hF
  have Oq150 : isO f148 (n + 25) a 11 := by rw [h149]; exact Oq147.put
  have Kq150 : h_K f n a f148 := by rw [h149]; exact Kq147.put
  obtain ⟨f151, h152, hF⟩ := h_tE hF
  have Oq153 : isO f151 (n + 26) a 11 := by rw [h152]; exact Oq150.new
  have Kq153 : h_K f n a f151 := by rw [h152]; exact Kq150.new (by omega) hO.1
  obtain ⟨f154, h155, hF⟩ := h_tE hF
  have Oq156 : isO f154 (n + 26) a 11 := by rw [h155]; exact Oq153.put
  have Kq156 : h_K f n a f154 := by rw [h155]; exact Kq153.put
  subst hF
  exact Kq156
set_option maxRecDepth 100000 in
set_option maxHeartbeats 8000000 in
theorem kX12_init (l : Launch) {y : Ly} {B n a : Nat} {f f1 : FH} (hO : isO f n a 11) (hF : gX12_init n f a = f1) : Met l yX12_init wqX12_init rmX12_init (h_P y B [.ref (B + a)] n f) (h_E y B (n + 26) f1) 26 95332 (h_A B) := by
  refine c_met (by decide) rfl rfl rfl (fun x K hQ => ?_)
  unfold gX12_init at hF
  refine c_aload_n (pc := 0) (n := n) (cells := 0) (slots := 0) K dX12_init_0 0 rfl ?_
  refine c_objInit (pc := 1) (n := n) (cells := 0) (slots := 0) K (List.mem_cons_of_mem _ jl_X12_1) (List.mem_cons_of_mem _ jw_i_objectInit) (List.mem_cons_of_mem _ jw_c_objectInit) dX12_init_1 (Nat.le_of_ble_eq_true rfl) (Nat.le_of_ble_eq_true rfl) ?_
  refine c_aload_n (pc := 4) (n := n) (cells := 0) (slots := 0) K dX12_init_4 0 rfl ?_
  refine c_bipush (pc := 5) (n := n) (cells := 0) (slots := 0) (v := 48) K dX12_init_5 rfl ?_
  refine c_newa (pc := 7) (n := n) (cells := 0) (slots := 0) (atype := .int) (ty := .int) K 0 48 rfl rfl rfl (fun _ _ => rfl) (List.mem_cons_of_mem _ jw_y_int) (by decide) (by decide) (Nat.le_of_ble_eq_true rfl) (Nat.le_of_ble_eq_true rfl) (Nat.le_of_ble_eq_true rfl) dX12_init_7 ?_
  refine c_nm hF (fun f1 h2 hF => ?_)
  have Oq3 : isO f1 (n + 1) a 11 := by rw [h2]; exact hO.new
  have Kq3 : h_K f n a f1 := by rw [h2]; exact (h_K.rf (f := f) (n := n) (a := a)).new (by omega) hO.1
  refine c_put (pc := 9) (n := n + 1) (cells := 1) (slots := 48) (C := RX12) (T := TX12) (N := 46) (j := 1) (ty := tyX12 1) K (1, n) hQ.2.2.2.1 Oq3 rfl rfl jn_X12 tyX12 tyX12_ok nmX12 (by decide) (List.mem_cons_of_mem _ jl_X12_7) (Or.inr ⟨rfl, rfl⟩) (tyX12_ok 1 (by decide)) rfl rfl rfl dX12_init_9 ?_
  refine c_nm hF (fun f4 h5 hF => ?_)
  have Oq6 : isO f4 (n + 1) a 11 := by rw [h5]; exact Oq3.put
  have Kq6 : h_K f n a f4 := by rw [h5]; exact Kq3.put
  refine c_aload_n (pc := 12) (n := n + 1) (cells := 1) (slots := 48) K dX12_init_12 0 rfl ?_
  refine c_sipush (pc := 13) (n := n + 1) (cells := 1) (slots := 48) (v := 144) K dX12_init_13 rfl ?_
  refine c_newa (pc := 16) (n := n + 1) (cells := 1) (slots := 48) (atype := .int) (ty := .int) K 0 144 rfl rfl rfl (fun _ _ => rfl) (List.mem_cons_of_mem _ jw_y_int) (by decide) (by decide) (Nat.le_of_ble_eq_true rfl) (Nat.le_of_ble_eq_true rfl) (Nat.le_of_ble_eq_true rfl) dX12_init_16 ?_
  refine c_nm hF (fun f7 h8 hF => ?_)
  have Oq9 : isO f7 (n + 2) a 11 := by rw [h8]; exact Oq6.new
  have Kq9 : h_K f n a f7 := by rw [h8]; exact Kq6.new (by omega) hO.1
  refine c_put (pc := 18) (n := n + 2) (cells := 2) (slots := 192) (C := RX12) (T := TX12) (N := 46) (j := 2) (ty := tyX12 2) K (1, (n + 1)) hQ.2.2.2.1 Oq9 rfl rfl jn_X12 tyX12 tyX12_ok nmX12 (by decide) (List.mem_cons_of_mem _ jl_X12_13) (Or.inr ⟨rfl, rfl⟩) (tyX12_ok 2 (by decide)) rfl rfl rfl dX12_init_18 ?_
  refine c_nm hF (fun f10 h11 hF => ?_)
  have Oq12 : isO f10 (n + 2) a 11 := by rw [h11]; exact Oq9.put
  have Kq12 : h_K f n a f10 := by rw [h11]; exact Kq9.put
  refine c_aload_n (pc := 21) (n := n + 2) (cells := 2) (slots := 192) K dX12_init_21 0 rfl ?_
  refine c_sipush (pc := 22) (n := n + 2) (cells := 2) (slots := 192) (v := 400) K dX12_init_22 rfl ?_
  refine c_newa (pc := 25) (n := n + 2) (cells := 2) (slots := 192) (atype := .byte) (ty := .byte) K 2 400 rfl rfl rfl (fun _ _ => rfl) (List.mem_cons_of_mem _ jw_y_byte) (by decide) (by decide) (Nat.le_of_ble_eq_true rfl) (Nat.le_of_ble_eq_true rfl) (Nat.le_of_ble_eq_true rfl) dX12_init_25 ?_
  refine c_nm hF (fun f13 h14 hF => ?_)
  have Oq15 : isO f13 (n + 3) a 11 := by rw [h14]; exact Oq12.new
  have Kq15 : h_K f n a f13 := by rw [h14]; exact Kq12.new (by omega) hO.1
  refine c_put (pc := 27) (n := n + 3) (cells := 3) (slots := 592) (C := RX12) (T := TX12) (N := 46) (j := 3) (ty := tyX12 3) K (1, (n + 2)) hQ.2.2.2.1 Oq15 rfl rfl jn_X12 tyX12 tyX12_ok nmX12 (by decide) (List.mem_cons_of_mem _ jl_X12_16) (Or.inr ⟨rfl, rfl⟩) (tyX12_ok 3 (by decide)) rfl rfl rfl dX12_init_27 ?_
  refine c_nm hF (fun f16 h17 hF => ?_)
  have Oq18 : isO f16 (n + 3) a 11 := by rw [h17]; exact Oq15.put
  have Kq18 : h_K f n a f16 := by rw [h17]; exact Kq15.put
  refine c_aload_n (pc := 30) (n := n + 3) (cells := 3) (slots := 592) K dX12_init_30 0 rfl ?_
  refine c_sipush (pc := 31) (n := n + 3) (cells := 3) (slots := 592) (v := 2400) K dX12_init_31 rfl ?_
  refine c_newa (pc := 34) (n := n + 3) (cells := 3) (slots := 592) (atype := .int) (ty := .int) K 0 2400 rfl rfl rfl (fun _ _ => rfl) (List.mem_cons_of_mem _ jw_y_int) (by decide) (by decide) (Nat.le_of_ble_eq_true rfl) (Nat.le_of_ble_eq_true rfl) (Nat.le_of_ble_eq_true rfl) dX12_init_34 ?_
  refine c_nm hF (fun f19 h20 hF => ?_)
  have Oq21 : isO f19 (n + 4) a 11 := by rw [h20]; exact Oq18.new
  have Kq21 : h_K f n a f19 := by rw [h20]; exact Kq18.new (by omega) hO.1
  refine c_put (pc := 36) (n := n + 4) (cells := 4) (slots := 2992) (C := RX12) (T := TX12) (N := 46) (j := 6) (ty := tyX12 6) K (1, (n + 3)) hQ.2.2.2.1 Oq21 rfl rfl jn_X12 tyX12 tyX12_ok nmX12 (by decide) (List.mem_cons_of_mem _ jl_X12_20) (Or.inr ⟨rfl, rfl⟩) (tyX12_ok 6 (by decide)) rfl rfl rfl dX12_init_36 ?_
  refine c_nm hF (fun f22 h23 hF => ?_)
  have Oq24 : isO f22 (n + 4) a 11 := by rw [h23]; exact Oq21.put
  have Kq24 : h_K f n a f22 := by rw [h23]; exact Kq21.put
  refine c_aload_n (pc := 39) (n := n + 4) (cells := 4) (slots := 2992) K dX12_init_39 0 rfl ?_
  refine c_bipush (pc := 40) (n := n + 4) (cells := 4) (slots := 2992) (v := 6) K dX12_init_40 rfl ?_
  refine c_newa (pc := 42) (n := n + 4) (cells := 4) (slots := 2992) (atype := .int) (ty := .int) K 0 6 rfl rfl rfl (fun _ _ => rfl) (List.mem_cons_of_mem _ jw_y_int) (by decide) (by decide) (Nat.le_of_ble_eq_true rfl) (Nat.le_of_ble_eq_true rfl) (Nat.le_of_ble_eq_true rfl) dX12_init_42 ?_
  refine c_nm hF (fun f25 h26 hF => ?_)
  have Oq27 : isO f25 (n + 5) a 11 := by rw [h26]; exact Oq24.new
  have Kq27 : h_K f n a f25 := by rw [h26]; exact Kq24.new (by omega) hO.1
  refine c_put (pc := 44) (n := n + 5) (cells := 5) (slots := 2998) (C := RX12) (T := TX12) (N := 46) (j := 7) (ty := tyX12 7) K (1, (n + 4)) hQ.2.2.2.1 Oq27 rfl rfl jn_X12 tyX12 tyX12_ok nmX12 (by decide) (List.mem_cons_of_mem _ jl_X12_23) (Or.inr ⟨rfl, rfl⟩) (tyX12_ok 7 (by decide)) rfl rfl rfl dX12_init_44 ?_
  refine c_nm hF (fun f28 h29 hF => ?_)
  have Oq30 : isO f28 (n + 5) a 11 := by rw [h29]; exact Oq27.put
  have Kq30 : h_K f n a f28 := by rw [h29]; exact Kq27.put
  refine c_aload_n (pc := 47) (n := n + 5) (cells := 5) (slots := 2998) K dX12_init_47 0 rfl ?_
  refine c_sipush (pc := 48) (n := n + 5) (cells := 5) (slots := 2998) (v := 420) K dX12_init_48 rfl ?_
  refine c_newa (pc := 51) (n := n + 5) (cells := 5) (slots := 2998) (atype := .int) (ty := .int) K 0 420 rfl rfl rfl (fun _ _ => rfl) (List.mem_cons_of_mem _ jw_y_int) (by decide) (by decide) (Nat.le_of_ble_eq_true rfl) (Nat.le_of_ble_eq_true rfl) (Nat.le_of_ble_eq_true rfl) dX12_init_51 ?_
  refine c_nm hF (fun f31 h32 hF => ?_)
  have Oq33 : isO f31 (n + 6) a 11 := by rw [h32]; exact Oq30.new
  have Kq33 : h_K f n a f31 := by rw [h32]; exact Kq30.new (by omega) hO.1
  refine c_put (pc := 53) (n := n + 6) (cells := 6) (slots := 3418) (C := RX12) (T := TX12) (N := 46) (j := 8) (ty := tyX12 8) K (1, (n + 5)) hQ.2.2.2.1 Oq33 rfl rfl jn_X12 tyX12 tyX12_ok nmX12 (by decide) (List.mem_cons_of_mem _ jl_X12_26) (Or.inr ⟨rfl, rfl⟩) (tyX12_ok 8 (by decide)) rfl rfl rfl dX12_init_53 ?_
  refine c_nm hF (fun f34 h35 hF => ?_)
  have Oq36 : isO f34 (n + 6) a 11 := by rw [h35]; exact Oq33.put
  have Kq36 : h_K f n a f34 := by rw [h35]; exact Kq33.put
  refine c_aload_n (pc := 56) (n := n + 6) (cells := 6) (slots := 3418) K dX12_init_56 0 rfl ?_
  refine c_bipush (pc := 57) (n := n + 6) (cells := 6) (slots := 3418) (v := 6) K dX12_init_57 rfl ?_
  refine c_newa (pc := 59) (n := n + 6) (cells := 6) (slots := 3418) (atype := .int) (ty := .int) K 0 6 rfl rfl rfl (fun _ _ => rfl) (List.mem_cons_of_mem _ jw_y_int) (by decide) (by decide) (Nat.le_of_ble_eq_true rfl) (Nat.le_of_ble_eq_true rfl) (Nat.le_of_ble_eq_true rfl) dX12_init_59 ?_
  refine c_nm hF (fun f37 h38 hF => ?_)
  have Oq39 : isO f37 (n + 7) a 11 := by rw [h38]; exact Oq36.new
  have Kq39 : h_K f n a f37 := by rw [h38]; exact Kq36.new (by omega) hO.1
  refine c_put (pc := 61) (n := n + 7) (cells := 7) (slots := 3424) (C := RX12) (T := TX12) (N := 46) (j := 9) (ty := tyX12 9) K (1, (n + 6)) hQ.2.2.2.1 Oq39 rfl rfl jn_X12 tyX12 tyX12_ok nmX12 (by decide) (List.mem_cons_of_mem _ jl_X12_29) (Or.inr ⟨rfl, rfl⟩) (tyX12_ok 9 (by decide)) rfl rfl rfl dX12_init_61 ?_
  refine c_nm hF (fun f40 h41 hF => ?_)
  have Oq42 : isO f40 (n + 7) a 11 := by rw [h41]; exact Oq39.put
  have Kq42 : h_K f n a f40 := by rw [h41]; exact Kq39.put
  refine c_aload_n (pc := 64) (n := n + 7) (cells := 7) (slots := 3424) K dX12_init_64 0 rfl ?_
  refine c_bipush (pc := 65) (n := n + 7) (cells := 7) (slots := 3424) (v := 6) K dX12_init_65 rfl ?_
  refine c_newa (pc := 67) (n := n + 7) (cells := 7) (slots := 3424) (atype := .int) (ty := .int) K 0 6 rfl rfl rfl (fun _ _ => rfl) (List.mem_cons_of_mem _ jw_y_int) (by decide) (by decide) (Nat.le_of_ble_eq_true rfl) (Nat.le_of_ble_eq_true rfl) (Nat.le_of_ble_eq_true rfl) dX12_init_67 ?_
  refine c_nm hF (fun f43 h44 hF => ?_)
  have Oq45 : isO f43 (n + 8) a 11 := by rw [h44]; exact Oq42.new
  have Kq45 : h_K f n a f43 := by rw [h44]; exact Kq42.new (by omega) hO.1
  refine c_put (pc := 69) (n := n + 8) (cells := 8) (slots := 3430) (C := RX12) (T := TX12) (N := 46) (j := 10) (ty := tyX12 10) K (1, (n + 7)) hQ.2.2.2.1 Oq45 rfl rfl jn_X12 tyX12 tyX12_ok nmX12 (by decide) (List.mem_cons_of_mem _ jl_X12_32) (Or.inr ⟨rfl, rfl⟩) (tyX12_ok 10 (by decide)) rfl rfl rfl dX12_init_69 ?_
  refine c_nm hF (fun f46 h47 hF => ?_)
  have Oq48 : isO f46 (n + 8) a 11 := by rw [h47]; exact Oq45.put
  have Kq48 : h_K f n a f46 := by rw [h47]; exact Kq45.put
  refine c_aload_n (pc := 72) (n := n + 8) (cells := 8) (slots := 3430) K dX12_init_72 0 rfl ?_
  refine c_bipush (pc := 73) (n := n + 8) (cells := 8) (slots := 3430) (v := 6) K dX12_init_73 rfl ?_
  refine c_newa (pc := 75) (n := n + 8) (cells := 8) (slots := 3430) (atype := .int) (ty := .int) K 0 6 rfl rfl rfl (fun _ _ => rfl) (List.mem_cons_of_mem _ jw_y_int) (by decide) (by decide) (Nat.le_of_ble_eq_true rfl) (Nat.le_of_ble_eq_true rfl) (Nat.le_of_ble_eq_true rfl) dX12_init_75 ?_
  refine c_nm hF (fun f49 h50 hF => ?_)
  have Oq51 : isO f49 (n + 9) a 11 := by rw [h50]; exact Oq48.new
  have Kq51 : h_K f n a f49 := by rw [h50]; exact Kq48.new (by omega) hO.1
  refine c_put (pc := 77) (n := n + 9) (cells := 9) (slots := 3436) (C := RX12) (T := TX12) (N := 46) (j := 11) (ty := tyX12 11) K (1, (n + 8)) hQ.2.2.2.1 Oq51 rfl rfl jn_X12 tyX12 tyX12_ok nmX12 (by decide) (List.mem_cons_of_mem _ jl_X12_35) (Or.inr ⟨rfl, rfl⟩) (tyX12_ok 11 (by decide)) rfl rfl rfl dX12_init_77 ?_
  refine c_nm hF (fun f52 h53 hF => ?_)
  have Oq54 : isO f52 (n + 9) a 11 := by rw [h53]; exact Oq51.put
  have Kq54 : h_K f n a f52 := by rw [h53]; exact Kq51.put
  refine c_aload_n (pc := 80) (n := n + 9) (cells := 9) (slots := 3436) K dX12_init_80 0 rfl ?_
  refine c_bipush (pc := 81) (n := n + 9) (cells := 9) (slots := 3436) (v := 6) K dX12_init_81 rfl ?_
  refine c_newa (pc := 83) (n := n + 9) (cells := 9) (slots := 3436) (atype := .int) (ty := .int) K 0 6 rfl rfl rfl (fun _ _ => rfl) (List.mem_cons_of_mem _ jw_y_int) (by decide) (by decide) (Nat.le_of_ble_eq_true rfl) (Nat.le_of_ble_eq_true rfl) (Nat.le_of_ble_eq_true rfl) dX12_init_83 ?_
  refine c_nm hF (fun f55 h56 hF => ?_)
  have Oq57 : isO f55 (n + 10) a 11 := by rw [h56]; exact Oq54.new
  have Kq57 : h_K f n a f55 := by rw [h56]; exact Kq54.new (by omega) hO.1
  refine c_put (pc := 85) (n := n + 10) (cells := 10) (slots := 3442) (C := RX12) (T := TX12) (N := 46) (j := 12) (ty := tyX12 12) K (1, (n + 9)) hQ.2.2.2.1 Oq57 rfl rfl jn_X12 tyX12 tyX12_ok nmX12 (by decide) (List.mem_cons_of_mem _ jl_X12_38) (Or.inr ⟨rfl, rfl⟩) (tyX12_ok 12 (by decide)) rfl rfl rfl dX12_init_85 ?_
  refine c_nm hF (fun f58 h59 hF => ?_)
  have Oq60 : isO f58 (n + 10) a 11 := by rw [h59]; exact Oq57.put
  have Kq60 : h_K f n a f58 := by rw [h59]; exact Kq57.put
  refine c_aload_n (pc := 88) (n := n + 10) (cells := 10) (slots := 3442) K dX12_init_88 0 rfl ?_
  refine c_bipush (pc := 89) (n := n + 10) (cells := 10) (slots := 3442) (v := 6) K dX12_init_89 rfl ?_
  refine c_newa (pc := 91) (n := n + 10) (cells := 10) (slots := 3442) (atype := .int) (ty := .int) K 0 6 rfl rfl rfl (fun _ _ => rfl) (List.mem_cons_of_mem _ jw_y_int) (by decide) (by decide) (Nat.le_of_ble_eq_true rfl) (Nat.le_of_ble_eq_true rfl) (Nat.le_of_ble_eq_true rfl) dX12_init_91 ?_
  refine c_nm hF (fun f61 h62 hF => ?_)
  have Oq63 : isO f61 (n + 11) a 11 := by rw [h62]; exact Oq60.new
  have Kq63 : h_K f n a f61 := by rw [h62]; exact Kq60.new (by omega) hO.1
  refine c_put (pc := 93) (n := n + 11) (cells := 11) (slots := 3448) (C := RX12) (T := TX12) (N := 46) (j := 13) (ty := tyX12 13) K (1, (n + 10)) hQ.2.2.2.1 Oq63 rfl rfl jn_X12 tyX12 tyX12_ok nmX12 (by decide) (List.mem_cons_of_mem _ jl_X12_41) (Or.inr ⟨rfl, rfl⟩) (tyX12_ok 13 (by decide)) rfl rfl rfl dX12_init_93 ?_
  refine c_nm hF (fun f64 h65 hF => ?_)
  have Oq66 : isO f64 (n + 11) a 11 := by rw [h65]; exact Oq63.put
  have Kq66 : h_K f n a f64 := by rw [h65]; exact Kq63.put
  refine c_aload_n (pc := 96) (n := n + 11) (cells := 11) (slots := 3448) K dX12_init_96 0 rfl ?_
  refine c_sipush (pc := 97) (n := n + 11) (cells := 11) (slots := 3448) (v := 400) K dX12_init_97 rfl ?_
  refine c_newa (pc := 100) (n := n + 11) (cells := 11) (slots := 3448) (atype := .int) (ty := .int) K 0 400 rfl rfl rfl (fun _ _ => rfl) (List.mem_cons_of_mem _ jw_y_int) (by decide) (by decide) (Nat.le_of_ble_eq_true rfl) (Nat.le_of_ble_eq_true rfl) (Nat.le_of_ble_eq_true rfl) dX12_init_100 ?_
  refine c_nm hF (fun f67 h68 hF => ?_)
  have Oq69 : isO f67 (n + 12) a 11 := by rw [h68]; exact Oq66.new
  have Kq69 : h_K f n a f67 := by rw [h68]; exact Kq66.new (by omega) hO.1
  refine c_put (pc := 102) (n := n + 12) (cells := 12) (slots := 3848) (C := RX12) (T := TX12) (N := 46) (j := 20) (ty := tyX12 20) K (1, (n + 11)) hQ.2.2.2.1 Oq69 rfl rfl jn_X12 tyX12 tyX12_ok nmX12 (by decide) (List.mem_cons_of_mem _ jl_X12_44) (Or.inr ⟨rfl, rfl⟩) (tyX12_ok 20 (by decide)) rfl rfl rfl dX12_init_102 ?_
  refine c_nm hF (fun f70 h71 hF => ?_)
  have Oq72 : isO f70 (n + 12) a 11 := by rw [h71]; exact Oq69.put
  have Kq72 : h_K f n a f70 := by rw [h71]; exact Kq69.put
  refine c_aload_n (pc := 105) (n := n + 12) (cells := 12) (slots := 3848) K dX12_init_105 0 rfl ?_
  refine c_bipush (pc := 106) (n := n + 12) (cells := 12) (slots := 3848) (v := 10) K dX12_init_106 rfl ?_
  refine c_newa (pc := 108) (n := n + 12) (cells := 12) (slots := 3848) (atype := .int) (ty := .int) K 0 10 rfl rfl rfl (fun _ _ => rfl) (List.mem_cons_of_mem _ jw_y_int) (by decide) (by decide) (Nat.le_of_ble_eq_true rfl) (Nat.le_of_ble_eq_true rfl) (Nat.le_of_ble_eq_true rfl) dX12_init_108 ?_
  refine c_nm hF (fun f73 h74 hF => ?_)
  have Oq75 : isO f73 (n + 13) a 11 := by rw [h74]; exact Oq72.new
  have Kq75 : h_K f n a f73 := by rw [h74]; exact Kq72.new (by omega) hO.1
  refine c_put (pc := 110) (n := n + 13) (cells := 13) (slots := 3858) (C := RX12) (T := TX12) (N := 46) (j := 22) (ty := tyX12 22) K (1, (n + 12)) hQ.2.2.2.1 Oq75 rfl rfl jn_X12 tyX12 tyX12_ok nmX12 (by decide) (List.mem_cons_of_mem _ jl_X12_47) (Or.inr ⟨rfl, rfl⟩) (tyX12_ok 22 (by decide)) rfl rfl rfl dX12_init_110 ?_
  refine c_nm hF (fun f76 h77 hF => ?_)
  have Oq78 : isO f76 (n + 13) a 11 := by rw [h77]; exact Oq75.put
  have Kq78 : h_K f n a f76 := by rw [h77]; exact Kq75.put
  refine c_aload_n (pc := 113) (n := n + 13) (cells := 13) (slots := 3858) K dX12_init_113 0 rfl ?_
  refine c_bipush (pc := 114) (n := n + 13) (cells := 13) (slots := 3858) (v := 64) K dX12_init_114 rfl ?_
  refine c_newa (pc := 116) (n := n + 13) (cells := 13) (slots := 3858) (atype := .int) (ty := .int) K 0 64 rfl rfl rfl (fun _ _ => rfl) (List.mem_cons_of_mem _ jw_y_int) (by decide) (by decide) (Nat.le_of_ble_eq_true rfl) (Nat.le_of_ble_eq_true rfl) (Nat.le_of_ble_eq_true rfl) dX12_init_116 ?_
  refine c_nm hF (fun f79 h80 hF => ?_)
  have Oq81 : isO f79 (n + 14) a 11 := by rw [h80]; exact Oq78.new
  have Kq81 : h_K f n a f79 := by rw [h80]; exact Kq78.new (by omega) hO.1
  refine c_put (pc := 118) (n := n + 14) (cells := 14) (slots := 3922) (C := RX12) (T := TX12) (N := 46) (j := 23) (ty := tyX12 23) K (1, (n + 13)) hQ.2.2.2.1 Oq81 rfl rfl jn_X12 tyX12 tyX12_ok nmX12 (by decide) (List.mem_cons_of_mem _ jl_X12_50) (Or.inr ⟨rfl, rfl⟩) (tyX12_ok 23 (by decide)) rfl rfl rfl dX12_init_118 ?_
  refine c_nm hF (fun f82 h83 hF => ?_)
  have Oq84 : isO f82 (n + 14) a 11 := by rw [h83]; exact Oq81.put
  have Kq84 : h_K f n a f82 := by rw [h83]; exact Kq81.put
  refine c_aload_n (pc := 121) (n := n + 14) (cells := 14) (slots := 3922) K dX12_init_121 0 rfl ?_
  refine c_iconst (pc := 122) (n := n + 14) (cells := 14) (slots := 3922) (v := 2) K dX12_init_122 rfl ?_
  refine c_newa (pc := 123) (n := n + 14) (cells := 14) (slots := 3922) (atype := .int) (ty := .int) K 0 2 rfl rfl rfl (fun _ _ => rfl) (List.mem_cons_of_mem _ jw_y_int) (by decide) (by decide) (Nat.le_of_ble_eq_true rfl) (Nat.le_of_ble_eq_true rfl) (Nat.le_of_ble_eq_true rfl) dX12_init_123 ?_
  refine c_nm hF (fun f85 h86 hF => ?_)
  have Oq87 : isO f85 (n + 15) a 11 := by rw [h86]; exact Oq84.new
  have Kq87 : h_K f n a f85 := by rw [h86]; exact Kq84.new (by omega) hO.1
  refine c_put (pc := 125) (n := n + 15) (cells := 15) (slots := 3924) (C := RX12) (T := TX12) (N := 46) (j := 26) (ty := tyX12 26) K (1, (n + 14)) hQ.2.2.2.1 Oq87 rfl rfl jn_X12 tyX12 tyX12_ok nmX12 (by decide) (List.mem_cons_of_mem _ jl_X12_53) (Or.inr ⟨rfl, rfl⟩) (tyX12_ok 26 (by decide)) rfl rfl rfl dX12_init_125 ?_
  refine c_nm hF (fun f88 h89 hF => ?_)
  have Oq90 : isO f88 (n + 15) a 11 := by rw [h89]; exact Oq87.put
  have Kq90 : h_K f n a f88 := by rw [h89]; exact Kq87.put
  refine c_aload_n (pc := 128) (n := n + 15) (cells := 15) (slots := 3924) K dX12_init_128 0 rfl ?_
  refine c_iconst (pc := 129) (n := n + 15) (cells := 15) (slots := 3924) (v := 2) K dX12_init_129 rfl ?_
  refine c_newa (pc := 130) (n := n + 15) (cells := 15) (slots := 3924) (atype := .int) (ty := .int) K 0 2 rfl rfl rfl (fun _ _ => rfl) (List.mem_cons_of_mem _ jw_y_int) (by decide) (by decide) (Nat.le_of_ble_eq_true rfl) (Nat.le_of_ble_eq_true rfl) (Nat.le_of_ble_eq_true rfl) dX12_init_130 ?_
  refine c_nm hF (fun f91 h92 hF => ?_)
  have Oq93 : isO f91 (n + 16) a 11 := by rw [h92]; exact Oq90.new
  have Kq93 : h_K f n a f91 := by rw [h92]; exact Kq90.new (by omega) hO.1
  refine c_put (pc := 132) (n := n + 16) (cells := 16) (slots := 3926) (C := RX12) (T := TX12) (N := 46) (j := 27) (ty := tyX12 27) K (1, (n + 15)) hQ.2.2.2.1 Oq93 rfl rfl jn_X12 tyX12 tyX12_ok nmX12 (by decide) (List.mem_cons_of_mem _ jl_X12_56) (Or.inr ⟨rfl, rfl⟩) (tyX12_ok 27 (by decide)) rfl rfl rfl dX12_init_132 ?_
  refine c_nm hF (fun f94 h95 hF => ?_)
  have Oq96 : isO f94 (n + 16) a 11 := by rw [h95]; exact Oq93.put
  have Kq96 : h_K f n a f94 := by rw [h95]; exact Kq93.put
  refine c_aload_n (pc := 135) (n := n + 16) (cells := 16) (slots := 3926) K dX12_init_135 0 rfl ?_
  refine c_iconst (pc := 136) (n := n + 16) (cells := 16) (slots := 3926) (v := 2) K dX12_init_136 rfl ?_
  refine c_newa (pc := 137) (n := n + 16) (cells := 16) (slots := 3926) (atype := .int) (ty := .int) K 0 2 rfl rfl rfl (fun _ _ => rfl) (List.mem_cons_of_mem _ jw_y_int) (by decide) (by decide) (Nat.le_of_ble_eq_true rfl) (Nat.le_of_ble_eq_true rfl) (Nat.le_of_ble_eq_true rfl) dX12_init_137 ?_
  refine c_nm hF (fun f97 h98 hF => ?_)
  have Oq99 : isO f97 (n + 17) a 11 := by rw [h98]; exact Oq96.new
  have Kq99 : h_K f n a f97 := by rw [h98]; exact Kq96.new (by omega) hO.1
  refine c_put (pc := 139) (n := n + 17) (cells := 17) (slots := 3928) (C := RX12) (T := TX12) (N := 46) (j := 30) (ty := tyX12 30) K (1, (n + 16)) hQ.2.2.2.1 Oq99 rfl rfl jn_X12 tyX12 tyX12_ok nmX12 (by decide) (List.mem_cons_of_mem _ jl_X12_59) (Or.inr ⟨rfl, rfl⟩) (tyX12_ok 30 (by decide)) rfl rfl rfl dX12_init_139 ?_
  refine c_nm hF (fun f100 h101 hF => ?_)
  have Oq102 : isO f100 (n + 17) a 11 := by rw [h101]; exact Oq99.put
  have Kq102 : h_K f n a f100 := by rw [h101]; exact Kq99.put
  refine c_aload_n (pc := 142) (n := n + 17) (cells := 17) (slots := 3928) K dX12_init_142 0 rfl ?_
  refine c_sipush (pc := 143) (n := n + 17) (cells := 17) (slots := 3928) (v := 13824) K dX12_init_143 rfl ?_
  refine c_newa (pc := 146) (n := n + 17) (cells := 17) (slots := 3928) (atype := .boolean) (ty := .boolean) K 3 13824 rfl rfl rfl (fun _ _ => rfl) (List.mem_cons_of_mem _ jw_y_boolean) (by decide) (by decide) (Nat.le_of_ble_eq_true rfl) (Nat.le_of_ble_eq_true rfl) (Nat.le_of_ble_eq_true rfl) dX12_init_146 ?_
  refine c_nm hF (fun f103 h104 hF => ?_)
  have Oq105 : isO f103 (n + 18) a 11 := by rw [h104]; exact Oq102.new
  have Kq105 : h_K f n a f103 := by rw [h104]; exact Kq102.new (by omega) hO.1
  refine c_put (pc := 148) (n := n + 18) (cells := 18) (slots := 17752) (C := RX12) (T := TX12) (N := 46) (j := 36) (ty := tyX12 36) K (1, (n + 17)) hQ.2.2.2.1 Oq105 rfl rfl jn_X12 tyX12 tyX12_ok nmX12 (by decide) (List.mem_cons_of_mem _ jl_X12_62) (Or.inr ⟨rfl, rfl⟩) (tyX12_ok 36 (by decide)) rfl rfl rfl dX12_init_148 ?_
  refine c_nm hF (fun f106 h107 hF => ?_)
  have Oq108 : isO f106 (n + 18) a 11 := by rw [h107]; exact Oq105.put
  have Kq108 : h_K f n a f106 := by rw [h107]; exact Kq105.put
  refine c_aload_n (pc := 151) (n := n + 18) (cells := 18) (slots := 17752) K dX12_init_151 0 rfl ?_
  refine c_sipush (pc := 152) (n := n + 18) (cells := 18) (slots := 17752) (v := 13824) K dX12_init_152 rfl ?_
  refine c_newa (pc := 155) (n := n + 18) (cells := 18) (slots := 17752) (atype := .int) (ty := .int) K 0 13824 rfl rfl rfl (fun _ _ => rfl) (List.mem_cons_of_mem _ jw_y_int) (by decide) (by decide) (Nat.le_of_ble_eq_true rfl) (Nat.le_of_ble_eq_true rfl) (Nat.le_of_ble_eq_true rfl) dX12_init_155 ?_
  refine c_nm hF (fun f109 h110 hF => ?_)
  have Oq111 : isO f109 (n + 19) a 11 := by rw [h110]; exact Oq108.new
  have Kq111 : h_K f n a f109 := by rw [h110]; exact Kq108.new (by omega) hO.1
  refine c_put (pc := 157) (n := n + 19) (cells := 19) (slots := 31576) (C := RX12) (T := TX12) (N := 46) (j := 37) (ty := tyX12 37) K (1, (n + 18)) hQ.2.2.2.1 Oq111 rfl rfl jn_X12 tyX12 tyX12_ok nmX12 (by decide) (List.mem_cons_of_mem _ jl_X12_66) (Or.inr ⟨rfl, rfl⟩) (tyX12_ok 37 (by decide)) rfl rfl rfl dX12_init_157 ?_
  refine c_nm hF (fun f112 h113 hF => ?_)
  have Oq114 : isO f112 (n + 19) a 11 := by rw [h113]; exact Oq111.put
  have Kq114 : h_K f n a f112 := by rw [h113]; exact Kq111.put
  refine c_aload_n (pc := 160) (n := n + 19) (cells := 19) (slots := 31576) K dX12_init_160 0 rfl ?_
  refine c_sipush (pc := 161) (n := n + 19) (cells := 19) (slots := 31576) (v := 13824) K dX12_init_161 rfl ?_
  refine c_newa (pc := 164) (n := n + 19) (cells := 19) (slots := 31576) (atype := .int) (ty := .int) K 0 13824 rfl rfl rfl (fun _ _ => rfl) (List.mem_cons_of_mem _ jw_y_int) (by decide) (by decide) (Nat.le_of_ble_eq_true rfl) (Nat.le_of_ble_eq_true rfl) (Nat.le_of_ble_eq_true rfl) dX12_init_164 ?_
  refine c_nm hF (fun f115 h116 hF => ?_)
  have Oq117 : isO f115 (n + 20) a 11 := by rw [h116]; exact Oq114.new
  have Kq117 : h_K f n a f115 := by rw [h116]; exact Kq114.new (by omega) hO.1
  refine c_put (pc := 166) (n := n + 20) (cells := 20) (slots := 45400) (C := RX12) (T := TX12) (N := 46) (j := 38) (ty := tyX12 38) K (1, (n + 19)) hQ.2.2.2.1 Oq117 rfl rfl jn_X12 tyX12 tyX12_ok nmX12 (by decide) (List.mem_cons_of_mem _ jl_X12_69) (Or.inr ⟨rfl, rfl⟩) (tyX12_ok 38 (by decide)) rfl rfl rfl dX12_init_166 ?_
  refine c_nm hF (fun f118 h119 hF => ?_)
  have Oq120 : isO f118 (n + 20) a 11 := by rw [h119]; exact Oq117.put
  have Kq120 : h_K f n a f118 := by rw [h119]; exact Kq117.put
  refine c_aload_n (pc := 169) (n := n + 20) (cells := 20) (slots := 45400) K dX12_init_169 0 rfl ?_
  refine c_sipush (pc := 170) (n := n + 20) (cells := 20) (slots := 45400) (v := 13824) K dX12_init_170 rfl ?_
  refine c_newa (pc := 173) (n := n + 20) (cells := 20) (slots := 45400) (atype := .int) (ty := .int) K 0 13824 rfl rfl rfl (fun _ _ => rfl) (List.mem_cons_of_mem _ jw_y_int) (by decide) (by decide) (Nat.le_of_ble_eq_true rfl) (Nat.le_of_ble_eq_true rfl) (Nat.le_of_ble_eq_true rfl) dX12_init_173 ?_
  refine c_nm hF (fun f121 h122 hF => ?_)
  have Oq123 : isO f121 (n + 21) a 11 := by rw [h122]; exact Oq120.new
  have Kq123 : h_K f n a f121 := by rw [h122]; exact Kq120.new (by omega) hO.1
  refine c_put (pc := 175) (n := n + 21) (cells := 21) (slots := 59224) (C := RX12) (T := TX12) (N := 46) (j := 39) (ty := tyX12 39) K (1, (n + 20)) hQ.2.2.2.1 Oq123 rfl rfl jn_X12 tyX12 tyX12_ok nmX12 (by decide) (List.mem_cons_of_mem _ jl_X12_72) (Or.inr ⟨rfl, rfl⟩) (tyX12_ok 39 (by decide)) rfl rfl rfl dX12_init_175 ?_
  refine c_nm hF (fun f124 h125 hF => ?_)
  have Oq126 : isO f124 (n + 21) a 11 := by rw [h125]; exact Oq123.put
  have Kq126 : h_K f n a f124 := by rw [h125]; exact Kq123.put
  refine c_aload_n (pc := 178) (n := n + 21) (cells := 21) (slots := 59224) K dX12_init_178 0 rfl ?_
  refine c_sipush (pc := 179) (n := n + 21) (cells := 21) (slots := 59224) (v := 13824) K dX12_init_179 rfl ?_
  refine c_newa (pc := 182) (n := n + 21) (cells := 21) (slots := 59224) (atype := .long) (ty := .long) K 1 13824 rfl rfl rfl (fun _ _ => rfl) (List.mem_cons_of_mem _ jw_y_long) (by decide) (by decide) (Nat.le_of_ble_eq_true rfl) (Nat.le_of_ble_eq_true rfl) (Nat.le_of_ble_eq_true rfl) dX12_init_182 ?_
  refine c_nm hF (fun f127 h128 hF => ?_)
  have Oq129 : isO f127 (n + 22) a 11 := by rw [h128]; exact Oq126.new
  have Kq129 : h_K f n a f127 := by rw [h128]; exact Kq126.new (by omega) hO.1
  refine c_put (pc := 184) (n := n + 22) (cells := 22) (slots := 73048) (C := RX12) (T := TX12) (N := 46) (j := 40) (ty := tyX12 40) K (1, (n + 21)) hQ.2.2.2.1 Oq129 rfl rfl jn_X12 tyX12 tyX12_ok nmX12 (by decide) (List.mem_cons_of_mem _ jl_X12_75) (Or.inr ⟨rfl, rfl⟩) (tyX12_ok 40 (by decide)) rfl rfl rfl dX12_init_184 ?_
  refine c_nm hF (fun f130 h131 hF => ?_)
  have Oq132 : isO f130 (n + 22) a 11 := by rw [h131]; exact Oq129.put
  have Kq132 : h_K f n a f130 := by rw [h131]; exact Kq129.put
  refine c_aload_n (pc := 187) (n := n + 22) (cells := 22) (slots := 73048) K dX12_init_187 0 rfl ?_
  refine c_sipush (pc := 188) (n := n + 22) (cells := 22) (slots := 73048) (v := 13824) K dX12_init_188 rfl ?_
  refine c_newa (pc := 191) (n := n + 22) (cells := 22) (slots := 73048) (atype := .int) (ty := .int) K 0 13824 rfl rfl rfl (fun _ _ => rfl) (List.mem_cons_of_mem _ jw_y_int) (by decide) (by decide) (Nat.le_of_ble_eq_true rfl) (Nat.le_of_ble_eq_true rfl) (Nat.le_of_ble_eq_true rfl) dX12_init_191 ?_
  refine c_nm hF (fun f133 h134 hF => ?_)
  have Oq135 : isO f133 (n + 23) a 11 := by rw [h134]; exact Oq132.new
  have Kq135 : h_K f n a f133 := by rw [h134]; exact Kq132.new (by omega) hO.1
  refine c_put (pc := 193) (n := n + 23) (cells := 23) (slots := 86872) (C := RX12) (T := TX12) (N := 46) (j := 41) (ty := tyX12 41) K (1, (n + 22)) hQ.2.2.2.1 Oq135 rfl rfl jn_X12 tyX12 tyX12_ok nmX12 (by decide) (List.mem_cons_of_mem _ jl_X12_79) (Or.inr ⟨rfl, rfl⟩) (tyX12_ok 41 (by decide)) rfl rfl rfl dX12_init_193 ?_
  refine c_nm hF (fun f136 h137 hF => ?_)
  have Oq138 : isO f136 (n + 23) a 11 := by rw [h137]; exact Oq135.put
  have Kq138 : h_K f n a f136 := by rw [h137]; exact Kq135.put
  refine c_aload_n (pc := 196) (n := n + 23) (cells := 23) (slots := 86872) K dX12_init_196 0 rfl ?_
  refine c_sipush (pc := 197) (n := n + 23) (cells := 23) (slots := 86872) (v := 1536) K dX12_init_197 rfl ?_
  refine c_newa (pc := 200) (n := n + 23) (cells := 23) (slots := 86872) (atype := .int) (ty := .int) K 0 1536 rfl rfl rfl (fun _ _ => rfl) (List.mem_cons_of_mem _ jw_y_int) (by decide) (by decide) (Nat.le_of_ble_eq_true rfl) (Nat.le_of_ble_eq_true rfl) (Nat.le_of_ble_eq_true rfl) dX12_init_200 ?_
  refine c_nm hF (fun f139 h140 hF => ?_)
  have Oq141 : isO f139 (n + 24) a 11 := by rw [h140]; exact Oq138.new
  have Kq141 : h_K f n a f139 := by rw [h140]; exact Kq138.new (by omega) hO.1
  refine c_put (pc := 202) (n := n + 24) (cells := 24) (slots := 88408) (C := RX12) (T := TX12) (N := 46) (j := 43) (ty := tyX12 43) K (1, (n + 23)) hQ.2.2.2.1 Oq141 rfl rfl jn_X12 tyX12 tyX12_ok nmX12 (by decide) (List.mem_cons_of_mem _ jl_X12_82) (Or.inr ⟨rfl, rfl⟩) (tyX12_ok 43 (by decide)) rfl rfl rfl dX12_init_202 ?_
  refine c_nm hF (fun f142 h143 hF => ?_)
  have Oq144 : isO f142 (n + 24) a 11 := by rw [h143]; exact Oq141.put
  have Kq144 : h_K f n a f142 := by rw [h143]; exact Kq141.put
  refine c_aload_n (pc := 205) (n := n + 24) (cells := 24) (slots := 88408) K dX12_init_205 0 rfl ?_
  refine c_sipush (pc := 206) (n := n + 24) (cells := 24) (slots := 88408) (v := 6920) K dX12_init_206 rfl ?_
  refine c_newa (pc := 209) (n := n + 24) (cells := 24) (slots := 88408) (atype := .int) (ty := .int) K 0 6920 rfl rfl rfl (fun _ _ => rfl) (List.mem_cons_of_mem _ jw_y_int) (by decide) (by decide) (Nat.le_of_ble_eq_true rfl) (Nat.le_of_ble_eq_true rfl) (Nat.le_of_ble_eq_true rfl) dX12_init_209 ?_
  refine c_nm hF (fun f145 h146 hF => ?_)
  have Oq147 : isO f145 (n + 25) a 11 := by rw [h146]; exact Oq144.new
  have Kq147 : h_K f n a f145 := by rw [h146]; exact Kq144.new (by omega) hO.1
  refine c_put (pc := 211) (n := n + 25) (cells := 25) (slots := 95328) (C := RX12) (T := TX12) (N := 46) (j := 44) (ty := tyX12 44) K (1, (n + 24)) hQ.2.2.2.1 Oq147 rfl rfl jn_X12 tyX12 tyX12_ok nmX12 (by decide) (List.mem_cons_of_mem _ jl_X12_85) (Or.inr ⟨rfl, rfl⟩) (tyX12_ok 44 (by decide)) rfl rfl rfl dX12_init_211 ?_
  refine c_nm hF (fun f148 h149 hF => ?_)
  have Oq150 : isO f148 (n + 25) a 11 := by rw [h149]; exact Oq147.put
  have Kq150 : h_K f n a f148 := by rw [h149]; exact Kq147.put
  refine c_aload_n (pc := 214) (n := n + 25) (cells := 25) (slots := 95328) K dX12_init_214 0 rfl ?_
  refine c_iconst (pc := 215) (n := n + 25) (cells := 25) (slots := 95328) (v := 4) K dX12_init_215 rfl ?_
  refine c_newa (pc := 216) (n := n + 25) (cells := 25) (slots := 95328) (atype := .boolean) (ty := .boolean) K 3 4 rfl rfl rfl (fun _ _ => rfl) (List.mem_cons_of_mem _ jw_y_boolean) (by decide) (by decide) (Nat.le_of_ble_eq_true rfl) (Nat.le_of_ble_eq_true rfl) (Nat.le_of_ble_eq_true rfl) dX12_init_216 ?_
  refine c_nm hF (fun f151 h152 hF => ?_)
  have Oq153 : isO f151 (n + 26) a 11 := by rw [h152]; exact Oq150.new
  have Kq153 : h_K f n a f151 := by rw [h152]; exact Kq150.new (by omega) hO.1
  refine c_put (pc := 218) (n := n + 26) (cells := 26) (slots := 95332) (C := RX12) (T := TX12) (N := 46) (j := 45) (ty := tyX12 45) K (1, (n + 25)) hQ.2.2.2.1 Oq153 rfl rfl jn_X12 tyX12 tyX12_ok nmX12 (by decide) (List.mem_cons_of_mem _ jl_X12_88) (Or.inr ⟨rfl, rfl⟩) (tyX12_ok 45 (by decide)) rfl rfl rfl dX12_init_218 ?_
  refine c_nm hF (fun f154 h155 hF => ?_)
  have Oq156 : isO f154 (n + 26) a 11 := by rw [h155]; exact Oq153.put
  have Kq156 : h_K f n a f154 := by rw [h155]; exact Kq153.put
  subst hF
  exact c_ret (pc := 221) K hQ dX12_init_221
